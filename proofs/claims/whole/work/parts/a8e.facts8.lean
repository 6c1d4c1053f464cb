/-! the instructions of the law, 4 -/
set_option maxRecDepth 20000 in
theorem f312_1934 : FF 312 1934 (.ireturn) 1 0 0 0 0 := rfl
set_option maxRecDepth 20000 in
theorem f312_1935 : FF 312 1935 (.goto 564) 3 0 0 0 0 := rfl
set_option maxRecDepth 20000 in
theorem f312_1938 : FF 312 1938 (.aload_n 1) 1 0 0 0 0 := rfl
set_option maxRecDepth 20000 in
theorem f312_1939 : FF 312 1939 (.aload_n 0) 1 0 0 0 0 := rfl
set_option maxRecDepth 20000 in
theorem f312_1940 : FF 312 1940 (.iload 4) 2 0 0 0 0 := rfl
set_option maxRecDepth 20000 in
theorem f312_1942 : FF 312 1942 (.iconst 1) 1 0 0 0 0 := rfl
set_option maxRecDepth 20000 in
theorem f312_1943 : FF 312 1943 (.iadd) 1 0 0 0 0 := rfl
set_option maxRecDepth 20000 in
theorem f312_1944 : FF 312 1944 (.iaload) 1 0 0 0 0 := rfl
set_option maxRecDepth 20000 in
theorem f312_1945 : FF 312 1945 (.aload_n 3) 1 0 0 0 0 := rfl
set_option maxRecDepth 20000 in
theorem f312_1946 : FF 312 1946 (.invokestatic 269) 3 305 3 1 1184 := rfl
set_option maxRecDepth 20000 in
theorem f312_1949 : FF 312 1949 (.istore 5) 2 0 0 0 0 := rfl
set_option maxRecDepth 20000 in
theorem f312_1951 : FF 312 1951 (.aload_n 2) 1 0 0 0 0 := rfl
set_option maxRecDepth 20000 in
theorem f312_1952 : FF 312 1952 (.aload_n 0) 1 0 0 0 0 := rfl
set_option maxRecDepth 20000 in
theorem f312_1953 : FF 312 1953 (.iload 4) 2 0 0 0 0 := rfl
set_option maxRecDepth 20000 in
theorem f312_1955 : FF 312 1955 (.iconst 1) 1 0 0 0 0 := rfl
set_option maxRecDepth 20000 in
theorem f312_1956 : FF 312 1956 (.iadd) 1 0 0 0 0 := rfl
set_option maxRecDepth 20000 in
theorem f312_1957 : FF 312 1957 (.iaload) 1 0 0 0 0 := rfl
set_option maxRecDepth 20000 in
theorem f312_1958 : FF 312 1958 (.invokevirtual 271) 3 264 1 0 1858 := rfl
set_option maxRecDepth 20000 in
theorem f312_1961 : FF 312 1961 (.istore 6) 2 0 0 0 0 := rfl
set_option maxRecDepth 20000 in
theorem f312_1963 : FF 312 1963 (.aload_n 2) 1 0 0 0 0 := rfl
set_option maxRecDepth 20000 in
theorem f312_1964 : FF 312 1964 (.invokevirtual 158) 3 147 0 0 1411 := rfl
set_option maxRecDepth 20000 in
theorem f312_1967 : FF 312 1967 (.iload 5) 2 0 0 0 0 := rfl
set_option maxRecDepth 20000 in
theorem f312_1969 : FF 312 1969 (.if_icmp .eq 5) 3 0 0 0 0 := rfl
set_option maxRecDepth 20000 in
theorem f312_1972 : FF 312 1972 (.iconst 0) 1 0 0 0 0 := rfl
set_option maxRecDepth 20000 in
theorem f312_1973 : FF 312 1973 (.ireturn) 1 0 0 0 0 := rfl
set_option maxRecDepth 20000 in
theorem f312_1974 : FF 312 1974 (.iload 5) 2 0 0 0 0 := rfl
set_option maxRecDepth 20000 in
theorem f312_1976 : FF 312 1976 (.ifCond .ne 15) 3 0 0 0 0 := rfl
set_option maxRecDepth 20000 in
theorem f312_1979 : FF 312 1979 (.aload_n 3) 1 0 0 0 0 := rfl
set_option maxRecDepth 20000 in
theorem f312_1980 : FF 312 1980 (.iconst 0) 1 0 0 0 0 := rfl
set_option maxRecDepth 20000 in
theorem f312_1981 : FF 312 1981 (.laload) 1 0 0 0 0 := rfl
set_option maxRecDepth 20000 in
theorem f312_1982 : FF 312 1982 (.iload 6) 2 0 0 0 0 := rfl
set_option maxRecDepth 20000 in
theorem f312_1984 : FF 312 1984 (.i2l) 1 0 0 0 0 := rfl
set_option maxRecDepth 20000 in
theorem f312_1985 : FF 312 1985 (.lcmp) 1 0 0 0 0 := rfl
set_option maxRecDepth 20000 in
theorem f312_1986 : FF 312 1986 (.ifCond .eq 5) 3 0 0 0 0 := rfl
set_option maxRecDepth 20000 in
theorem f312_1989 : FF 312 1989 (.iconst 0) 1 0 0 0 0 := rfl
set_option maxRecDepth 20000 in
theorem f312_1990 : FF 312 1990 (.ireturn) 1 0 0 0 0 := rfl
set_option maxRecDepth 20000 in
theorem f312_1991 : FF 312 1991 (.goto 508) 3 0 0 0 0 := rfl
set_option maxRecDepth 20000 in
theorem f312_1994 : FF 312 1994 (.aload_n 1) 1 0 0 0 0 := rfl
set_option maxRecDepth 20000 in
theorem f312_1995 : FF 312 1995 (.aload_n 0) 1 0 0 0 0 := rfl
set_option maxRecDepth 20000 in
theorem f312_1996 : FF 312 1996 (.iload 4) 2 0 0 0 0 := rfl
set_option maxRecDepth 20000 in
theorem f312_1998 : FF 312 1998 (.iconst 1) 1 0 0 0 0 := rfl
set_option maxRecDepth 20000 in
theorem f312_1999 : FF 312 1999 (.iadd) 1 0 0 0 0 := rfl
set_option maxRecDepth 20000 in
theorem f312_2000 : FF 312 2000 (.iaload) 1 0 0 0 0 := rfl
set_option maxRecDepth 20000 in
theorem f312_2001 : FF 312 2001 (.aload_n 3) 1 0 0 0 0 := rfl
set_option maxRecDepth 20000 in
theorem f312_2002 : FF 312 2002 (.invokestatic 272) 3 306 3 1 1191 := rfl
set_option maxRecDepth 20000 in
theorem f312_2005 : FF 312 2005 (.istore 5) 2 0 0 0 0 := rfl
set_option maxRecDepth 20000 in
theorem f312_2007 : FF 312 2007 (.aload_n 2) 1 0 0 0 0 := rfl
set_option maxRecDepth 20000 in
theorem f312_2008 : FF 312 2008 (.aload_n 0) 1 0 0 0 0 := rfl
set_option maxRecDepth 20000 in
theorem f312_2009 : FF 312 2009 (.iload 4) 2 0 0 0 0 := rfl
set_option maxRecDepth 20000 in
theorem f312_2011 : FF 312 2011 (.iconst 1) 1 0 0 0 0 := rfl
set_option maxRecDepth 20000 in
theorem f312_2012 : FF 312 2012 (.iadd) 1 0 0 0 0 := rfl
set_option maxRecDepth 20000 in
theorem f312_2013 : FF 312 2013 (.iaload) 1 0 0 0 0 := rfl
set_option maxRecDepth 20000 in
theorem f312_2014 : FF 312 2014 (.invokevirtual 274) 3 265 1 0 1862 := rfl
set_option maxRecDepth 20000 in
theorem f312_2017 : FF 312 2017 (.istore 6) 2 0 0 0 0 := rfl
set_option maxRecDepth 20000 in
theorem f312_2019 : FF 312 2019 (.aload_n 2) 1 0 0 0 0 := rfl
set_option maxRecDepth 20000 in
theorem f312_2020 : FF 312 2020 (.invokevirtual 158) 3 147 0 0 1411 := rfl
set_option maxRecDepth 20000 in
theorem f312_2023 : FF 312 2023 (.iload 5) 2 0 0 0 0 := rfl
set_option maxRecDepth 20000 in
theorem f312_2025 : FF 312 2025 (.if_icmp .eq 5) 3 0 0 0 0 := rfl
set_option maxRecDepth 20000 in
theorem f312_2028 : FF 312 2028 (.iconst 0) 1 0 0 0 0 := rfl
set_option maxRecDepth 20000 in
theorem f312_2029 : FF 312 2029 (.ireturn) 1 0 0 0 0 := rfl
set_option maxRecDepth 20000 in
theorem f312_2030 : FF 312 2030 (.iload 5) 2 0 0 0 0 := rfl
set_option maxRecDepth 20000 in
theorem f312_2032 : FF 312 2032 (.ifCond .ne 15) 3 0 0 0 0 := rfl
set_option maxRecDepth 20000 in
theorem f312_2035 : FF 312 2035 (.aload_n 3) 1 0 0 0 0 := rfl
set_option maxRecDepth 20000 in
theorem f312_2036 : FF 312 2036 (.iconst 0) 1 0 0 0 0 := rfl
set_option maxRecDepth 20000 in
theorem f312_2037 : FF 312 2037 (.laload) 1 0 0 0 0 := rfl
set_option maxRecDepth 20000 in
theorem f312_2038 : FF 312 2038 (.iload 6) 2 0 0 0 0 := rfl
set_option maxRecDepth 20000 in
theorem f312_2040 : FF 312 2040 (.i2l) 1 0 0 0 0 := rfl
set_option maxRecDepth 20000 in
theorem f312_2041 : FF 312 2041 (.lcmp) 1 0 0 0 0 := rfl
set_option maxRecDepth 20000 in
theorem f312_2042 : FF 312 2042 (.ifCond .eq 5) 3 0 0 0 0 := rfl
set_option maxRecDepth 20000 in
theorem f312_2045 : FF 312 2045 (.iconst 0) 1 0 0 0 0 := rfl
set_option maxRecDepth 20000 in
theorem f312_2046 : FF 312 2046 (.ireturn) 1 0 0 0 0 := rfl
set_option maxRecDepth 20000 in
theorem f312_2047 : FF 312 2047 (.goto 452) 3 0 0 0 0 := rfl
set_option maxRecDepth 20000 in
theorem f312_2050 : FF 312 2050 (.aload_n 1) 1 0 0 0 0 := rfl
set_option maxRecDepth 20000 in
theorem f312_2051 : FF 312 2051 (.invokevirtual 275) 3 118 0 0 890 := rfl
set_option maxRecDepth 20000 in
theorem f312_2054 : FF 312 2054 (.aload_n 2) 1 0 0 0 0 := rfl
set_option maxRecDepth 20000 in
theorem f312_2055 : FF 312 2055 (.invokevirtual 278) 3 266 0 0 1866 := rfl
set_option maxRecDepth 20000 in
theorem f312_2058 : FF 312 2058 (.if_icmp .eq 441) 3 0 0 0 0 := rfl
set_option maxRecDepth 20000 in
theorem f312_2061 : FF 312 2061 (.iconst 0) 1 0 0 0 0 := rfl
set_option maxRecDepth 20000 in
theorem f312_2062 : FF 312 2062 (.ireturn) 1 0 0 0 0 := rfl
set_option maxRecDepth 20000 in
theorem f312_2063 : FF 312 2063 (.aload_n 1) 1 0 0 0 0 := rfl
set_option maxRecDepth 20000 in
theorem f312_2064 : FF 312 2064 (.invokevirtual 279) 3 119 0 0 894 := rfl
set_option maxRecDepth 20000 in
theorem f312_2067 : FF 312 2067 (.aload_n 2) 1 0 0 0 0 := rfl
set_option maxRecDepth 20000 in
theorem f312_2068 : FF 312 2068 (.invokevirtual 282) 3 267 0 0 1870 := rfl
set_option maxRecDepth 20000 in
theorem f312_2071 : FF 312 2071 (.if_icmp .eq 428) 3 0 0 0 0 := rfl
set_option maxRecDepth 20000 in
theorem f312_2074 : FF 312 2074 (.iconst 0) 1 0 0 0 0 := rfl
set_option maxRecDepth 20000 in
theorem f312_2075 : FF 312 2075 (.ireturn) 1 0 0 0 0 := rfl
set_option maxRecDepth 20000 in
theorem f312_2076 : FF 312 2076 (.aload_n 1) 1 0 0 0 0 := rfl
set_option maxRecDepth 20000 in
theorem f312_2077 : FF 312 2077 (.invokevirtual 283) 3 120 0 0 898 := rfl
set_option maxRecDepth 20000 in
theorem f312_2080 : FF 312 2080 (.aload_n 2) 1 0 0 0 0 := rfl
set_option maxRecDepth 20000 in
theorem f312_2081 : FF 312 2081 (.invokevirtual 286) 3 269 0 0 1874 := rfl
set_option maxRecDepth 20000 in
theorem f312_2084 : FF 312 2084 (.if_icmp .eq 415) 3 0 0 0 0 := rfl
set_option maxRecDepth 20000 in
theorem f312_2087 : FF 312 2087 (.iconst 0) 1 0 0 0 0 := rfl
set_option maxRecDepth 20000 in
theorem f312_2088 : FF 312 2088 (.ireturn) 1 0 0 0 0 := rfl
set_option maxRecDepth 20000 in
theorem f312_2089 : FF 312 2089 (.aload_n 1) 1 0 0 0 0 := rfl
set_option maxRecDepth 20000 in
theorem f312_2090 : FF 312 2090 (.invokevirtual 287) 3 121 0 0 913 := rfl
set_option maxRecDepth 20000 in
theorem f312_2093 : FF 312 2093 (.dstore 5) 2 0 0 0 0 := rfl
set_option maxRecDepth 20000 in
theorem f312_2095 : FF 312 2095 (.aload_n 2) 1 0 0 0 0 := rfl
set_option maxRecDepth 20000 in
theorem f312_2096 : FF 312 2096 (.invokevirtual 291) 3 270 0 0 1886 := rfl
set_option maxRecDepth 20000 in
theorem f312_2099 : FF 312 2099 (.dstore 7) 2 0 0 0 0 := rfl
set_option maxRecDepth 20000 in
theorem f312_2101 : FF 312 2101 (.dload 5) 2 0 0 0 0 := rfl
set_option maxRecDepth 20000 in
theorem f312_2103 : FF 312 2103 (.dload 7) 2 0 0 0 0 := rfl
set_option maxRecDepth 20000 in
theorem f312_2105 : FF 312 2105 (.dcmp .l) 1 0 0 0 0 := rfl
set_option maxRecDepth 20000 in
theorem f312_2106 : FF 312 2106 (.ifCond .eq 21) 3 0 0 0 0 := rfl
set_option maxRecDepth 20000 in
theorem f312_2109 : FF 312 2109 (.dload 5) 2 0 0 0 0 := rfl
set_option maxRecDepth 20000 in
theorem f312_2111 : FF 312 2111 (.dload 5) 2 0 0 0 0 := rfl
set_option maxRecDepth 20000 in
theorem f312_2113 : FF 312 2113 (.dcmp .l) 1 0 0 0 0 := rfl
set_option maxRecDepth 20000 in
theorem f312_2114 : FF 312 2114 (.ifCond .eq 11) 3 0 0 0 0 := rfl
set_option maxRecDepth 20000 in
theorem f312_2117 : FF 312 2117 (.dload 7) 2 0 0 0 0 := rfl
set_option maxRecDepth 20000 in
theorem f312_2119 : FF 312 2119 (.dload 7) 2 0 0 0 0 := rfl
set_option maxRecDepth 20000 in
theorem f312_2121 : FF 312 2121 (.dcmp .l) 1 0 0 0 0 := rfl
set_option maxRecDepth 20000 in
theorem f312_2122 : FF 312 2122 (.ifCond .ne 5) 3 0 0 0 0 := rfl
set_option maxRecDepth 20000 in
theorem f312_2125 : FF 312 2125 (.iconst 0) 1 0 0 0 0 := rfl
set_option maxRecDepth 20000 in
theorem f312_2126 : FF 312 2126 (.ireturn) 1 0 0 0 0 := rfl
set_option maxRecDepth 20000 in
theorem f312_2127 : FF 312 2127 (.goto 372) 3 0 0 0 0 := rfl
set_option maxRecDepth 20000 in
theorem f312_2130 : FF 312 2130 (.aload_n 1) 1 0 0 0 0 := rfl
set_option maxRecDepth 20000 in
theorem f312_2131 : FF 312 2131 (.aload_n 0) 1 0 0 0 0 := rfl
set_option maxRecDepth 20000 in
theorem f312_2132 : FF 312 2132 (.iload 4) 2 0 0 0 0 := rfl
set_option maxRecDepth 20000 in
theorem f312_2134 : FF 312 2134 (.iconst 1) 1 0 0 0 0 := rfl
set_option maxRecDepth 20000 in
theorem f312_2135 : FF 312 2135 (.iadd) 1 0 0 0 0 := rfl
set_option maxRecDepth 20000 in
theorem f312_2136 : FF 312 2136 (.iaload) 1 0 0 0 0 := rfl
set_option maxRecDepth 20000 in
theorem f312_2137 : FF 312 2137 (.aload_n 3) 1 0 0 0 0 := rfl
set_option maxRecDepth 20000 in
theorem f312_2138 : FF 312 2138 (.invokestatic 292) 3 307 3 1 1198 := rfl
set_option maxRecDepth 20000 in
theorem f312_2141 : FF 312 2141 (.istore 5) 2 0 0 0 0 := rfl
set_option maxRecDepth 20000 in
theorem f312_2143 : FF 312 2143 (.aload_n 2) 1 0 0 0 0 := rfl
set_option maxRecDepth 20000 in
theorem f312_2144 : FF 312 2144 (.aload_n 0) 1 0 0 0 0 := rfl
set_option maxRecDepth 20000 in
theorem f312_2145 : FF 312 2145 (.iload 4) 2 0 0 0 0 := rfl
set_option maxRecDepth 20000 in
theorem f312_2147 : FF 312 2147 (.iconst 1) 1 0 0 0 0 := rfl
set_option maxRecDepth 20000 in
theorem f312_2148 : FF 312 2148 (.iadd) 1 0 0 0 0 := rfl
set_option maxRecDepth 20000 in
theorem f312_2149 : FF 312 2149 (.iaload) 1 0 0 0 0 := rfl
set_option maxRecDepth 20000 in
theorem f312_2150 : FF 312 2150 (.invokevirtual 294) 3 271 1 0 1890 := rfl
set_option maxRecDepth 20000 in
theorem f312_2153 : FF 312 2153 (.istore 6) 2 0 0 0 0 := rfl
set_option maxRecDepth 20000 in
theorem f312_2155 : FF 312 2155 (.aload_n 2) 1 0 0 0 0 := rfl
set_option maxRecDepth 20000 in
theorem f312_2156 : FF 312 2156 (.invokevirtual 158) 3 147 0 0 1411 := rfl
set_option maxRecDepth 20000 in
theorem f312_2159 : FF 312 2159 (.iload 5) 2 0 0 0 0 := rfl
set_option maxRecDepth 20000 in
theorem f312_2161 : FF 312 2161 (.if_icmp .eq 5) 3 0 0 0 0 := rfl
set_option maxRecDepth 20000 in
theorem f312_2164 : FF 312 2164 (.iconst 0) 1 0 0 0 0 := rfl
set_option maxRecDepth 20000 in
theorem f312_2165 : FF 312 2165 (.ireturn) 1 0 0 0 0 := rfl
set_option maxRecDepth 20000 in
theorem f312_2166 : FF 312 2166 (.iload 5) 2 0 0 0 0 := rfl
set_option maxRecDepth 20000 in
theorem f312_2168 : FF 312 2168 (.ifCond .ne 15) 3 0 0 0 0 := rfl
set_option maxRecDepth 20000 in
theorem f312_2171 : FF 312 2171 (.aload_n 3) 1 0 0 0 0 := rfl
set_option maxRecDepth 20000 in
theorem f312_2172 : FF 312 2172 (.iconst 0) 1 0 0 0 0 := rfl
set_option maxRecDepth 20000 in
theorem f312_2173 : FF 312 2173 (.laload) 1 0 0 0 0 := rfl
set_option maxRecDepth 20000 in
theorem f312_2174 : FF 312 2174 (.iload 6) 2 0 0 0 0 := rfl
set_option maxRecDepth 20000 in
theorem f312_2176 : FF 312 2176 (.i2l) 1 0 0 0 0 := rfl
set_option maxRecDepth 20000 in
theorem f312_2177 : FF 312 2177 (.lcmp) 1 0 0 0 0 := rfl
set_option maxRecDepth 20000 in
theorem f312_2178 : FF 312 2178 (.ifCond .eq 5) 3 0 0 0 0 := rfl
set_option maxRecDepth 20000 in
theorem f312_2181 : FF 312 2181 (.iconst 0) 1 0 0 0 0 := rfl
set_option maxRecDepth 20000 in
theorem f312_2182 : FF 312 2182 (.ireturn) 1 0 0 0 0 := rfl
set_option maxRecDepth 20000 in
theorem f312_2183 : FF 312 2183 (.goto 316) 3 0 0 0 0 := rfl
set_option maxRecDepth 20000 in
theorem f312_2186 : FF 312 2186 (.aload_n 1) 1 0 0 0 0 := rfl
set_option maxRecDepth 20000 in
theorem f312_2187 : FF 312 2187 (.aload_n 0) 1 0 0 0 0 := rfl
set_option maxRecDepth 20000 in
theorem f312_2188 : FF 312 2188 (.iload 4) 2 0 0 0 0 := rfl
set_option maxRecDepth 20000 in
theorem f312_2190 : FF 312 2190 (.iconst 1) 1 0 0 0 0 := rfl
set_option maxRecDepth 20000 in
theorem f312_2191 : FF 312 2191 (.iadd) 1 0 0 0 0 := rfl
set_option maxRecDepth 20000 in
theorem f312_2192 : FF 312 2192 (.iaload) 1 0 0 0 0 := rfl
set_option maxRecDepth 20000 in
theorem f312_2193 : FF 312 2193 (.aload_n 0) 1 0 0 0 0 := rfl
set_option maxRecDepth 20000 in
theorem f312_2194 : FF 312 2194 (.iload 4) 2 0 0 0 0 := rfl
set_option maxRecDepth 20000 in
theorem f312_2196 : FF 312 2196 (.iconst 2) 1 0 0 0 0 := rfl
set_option maxRecDepth 20000 in
theorem f312_2197 : FF 312 2197 (.iadd) 1 0 0 0 0 := rfl
set_option maxRecDepth 20000 in
theorem f312_2198 : FF 312 2198 (.iaload) 1 0 0 0 0 := rfl
set_option maxRecDepth 20000 in
theorem f312_2199 : FF 312 2199 (.aload_n 3) 1 0 0 0 0 := rfl
set_option maxRecDepth 20000 in
theorem f312_2200 : FF 312 2200 (.invokestatic 295) 3 308 4 1 1205 := rfl
set_option maxRecDepth 20000 in
theorem f312_2203 : FF 312 2203 (.istore 5) 2 0 0 0 0 := rfl
set_option maxRecDepth 20000 in
theorem f312_2205 : FF 312 2205 (.aload_n 2) 1 0 0 0 0 := rfl
set_option maxRecDepth 20000 in
theorem f312_2206 : FF 312 2206 (.aload_n 0) 1 0 0 0 0 := rfl
set_option maxRecDepth 20000 in
theorem f312_2207 : FF 312 2207 (.iload 4) 2 0 0 0 0 := rfl
set_option maxRecDepth 20000 in
theorem f312_2209 : FF 312 2209 (.iconst 1) 1 0 0 0 0 := rfl
set_option maxRecDepth 20000 in
theorem f312_2210 : FF 312 2210 (.iadd) 1 0 0 0 0 := rfl
set_option maxRecDepth 20000 in
theorem f312_2211 : FF 312 2211 (.iaload) 1 0 0 0 0 := rfl
set_option maxRecDepth 20000 in
theorem f312_2212 : FF 312 2212 (.aload_n 0) 1 0 0 0 0 := rfl
set_option maxRecDepth 20000 in
theorem f312_2213 : FF 312 2213 (.iload 4) 2 0 0 0 0 := rfl
set_option maxRecDepth 20000 in
theorem f312_2215 : FF 312 2215 (.iconst 2) 1 0 0 0 0 := rfl
set_option maxRecDepth 20000 in
theorem f312_2216 : FF 312 2216 (.iadd) 1 0 0 0 0 := rfl
set_option maxRecDepth 20000 in
theorem f312_2217 : FF 312 2217 (.iaload) 1 0 0 0 0 := rfl
set_option maxRecDepth 20000 in
theorem f312_2218 : FF 312 2218 (.invokevirtual 297) 3 272 2 0 1894 := rfl
set_option maxRecDepth 20000 in
theorem f312_2221 : FF 312 2221 (.istore 6) 2 0 0 0 0 := rfl
set_option maxRecDepth 20000 in
theorem f312_2223 : FF 312 2223 (.aload_n 2) 1 0 0 0 0 := rfl
set_option maxRecDepth 20000 in
theorem f312_2224 : FF 312 2224 (.invokevirtual 158) 3 147 0 0 1411 := rfl
set_option maxRecDepth 20000 in
theorem f312_2227 : FF 312 2227 (.iload 5) 2 0 0 0 0 := rfl
set_option maxRecDepth 20000 in
theorem f312_2229 : FF 312 2229 (.if_icmp .eq 5) 3 0 0 0 0 := rfl
set_option maxRecDepth 20000 in
theorem f312_2232 : FF 312 2232 (.iconst 0) 1 0 0 0 0 := rfl
set_option maxRecDepth 20000 in
theorem f312_2233 : FF 312 2233 (.ireturn) 1 0 0 0 0 := rfl
set_option maxRecDepth 20000 in
theorem f312_2234 : FF 312 2234 (.iload 5) 2 0 0 0 0 := rfl
set_option maxRecDepth 20000 in
theorem f312_2236 : FF 312 2236 (.ifCond .ne 15) 3 0 0 0 0 := rfl
set_option maxRecDepth 20000 in
theorem f312_2239 : FF 312 2239 (.aload_n 3) 1 0 0 0 0 := rfl
set_option maxRecDepth 20000 in
theorem f312_2240 : FF 312 2240 (.iconst 0) 1 0 0 0 0 := rfl
set_option maxRecDepth 20000 in
theorem f312_2241 : FF 312 2241 (.laload) 1 0 0 0 0 := rfl
set_option maxRecDepth 20000 in
theorem f312_2242 : FF 312 2242 (.iload 6) 2 0 0 0 0 := rfl
set_option maxRecDepth 20000 in
theorem f312_2244 : FF 312 2244 (.i2l) 1 0 0 0 0 := rfl
set_option maxRecDepth 20000 in
theorem f312_2245 : FF 312 2245 (.lcmp) 1 0 0 0 0 := rfl
set_option maxRecDepth 20000 in
theorem f312_2246 : FF 312 2246 (.ifCond .eq 5) 3 0 0 0 0 := rfl
set_option maxRecDepth 20000 in
theorem f312_2249 : FF 312 2249 (.iconst 0) 1 0 0 0 0 := rfl
set_option maxRecDepth 20000 in
theorem f312_2250 : FF 312 2250 (.ireturn) 1 0 0 0 0 := rfl
set_option maxRecDepth 20000 in
theorem f312_2251 : FF 312 2251 (.goto 248) 3 0 0 0 0 := rfl
set_option maxRecDepth 20000 in
theorem f312_2254 : FF 312 2254 (.aload_n 1) 1 0 0 0 0 := rfl
set_option maxRecDepth 20000 in
theorem f312_2255 : FF 312 2255 (.invokevirtual 298) 3 124 0 0 917 := rfl
set_option maxRecDepth 20000 in
theorem f312_2258 : FF 312 2258 (.aload_n 2) 1 0 0 0 0 := rfl
set_option maxRecDepth 20000 in
theorem f312_2259 : FF 312 2259 (.invokevirtual 301) 3 273 0 0 1898 := rfl
set_option maxRecDepth 20000 in
theorem f312_2262 : FF 312 2262 (.if_icmp .eq 237) 3 0 0 0 0 := rfl
set_option maxRecDepth 20000 in
theorem f312_2265 : FF 312 2265 (.iconst 0) 1 0 0 0 0 := rfl
set_option maxRecDepth 20000 in
theorem f312_2266 : FF 312 2266 (.ireturn) 1 0 0 0 0 := rfl
set_option maxRecDepth 20000 in
theorem f312_2267 : FF 312 2267 (.aload_n 1) 1 0 0 0 0 := rfl
set_option maxRecDepth 20000 in
theorem f312_2268 : FF 312 2268 (.invokevirtual 302) 3 125 0 0 921 := rfl
set_option maxRecDepth 20000 in
theorem f312_2271 : FF 312 2271 (.aload_n 2) 1 0 0 0 0 := rfl
set_option maxRecDepth 20000 in
theorem f312_2272 : FF 312 2272 (.invokevirtual 305) 3 274 0 0 1902 := rfl
set_option maxRecDepth 20000 in
theorem f312_2275 : FF 312 2275 (.if_icmp .eq 224) 3 0 0 0 0 := rfl
set_option maxRecDepth 20000 in
theorem f312_2278 : FF 312 2278 (.iconst 0) 1 0 0 0 0 := rfl
set_option maxRecDepth 20000 in
theorem f312_2279 : FF 312 2279 (.ireturn) 1 0 0 0 0 := rfl
set_option maxRecDepth 20000 in
theorem f312_2280 : FF 312 2280 (.aload_n 1) 1 0 0 0 0 := rfl
set_option maxRecDepth 20000 in
theorem f312_2281 : FF 312 2281 (.aload_n 0) 1 0 0 0 0 := rfl
set_option maxRecDepth 20000 in
theorem f312_2282 : FF 312 2282 (.iload 4) 2 0 0 0 0 := rfl
set_option maxRecDepth 20000 in
theorem f312_2284 : FF 312 2284 (.iconst 1) 1 0 0 0 0 := rfl
set_option maxRecDepth 20000 in
theorem f312_2285 : FF 312 2285 (.iadd) 1 0 0 0 0 := rfl
set_option maxRecDepth 20000 in
theorem f312_2286 : FF 312 2286 (.iaload) 1 0 0 0 0 := rfl
set_option maxRecDepth 20000 in
theorem f312_2287 : FF 312 2287 (.aload_n 0) 1 0 0 0 0 := rfl
set_option maxRecDepth 20000 in
theorem f312_2288 : FF 312 2288 (.iload 4) 2 0 0 0 0 := rfl
set_option maxRecDepth 20000 in
theorem f312_2290 : FF 312 2290 (.iconst 2) 1 0 0 0 0 := rfl
set_option maxRecDepth 20000 in
theorem f312_2291 : FF 312 2291 (.iadd) 1 0 0 0 0 := rfl
set_option maxRecDepth 20000 in
theorem f312_2292 : FF 312 2292 (.iaload) 1 0 0 0 0 := rfl
set_option maxRecDepth 20000 in
theorem f312_2293 : FF 312 2293 (.aload_n 0) 1 0 0 0 0 := rfl
set_option maxRecDepth 20000 in
theorem f312_2294 : FF 312 2294 (.iload 4) 2 0 0 0 0 := rfl
set_option maxRecDepth 20000 in
theorem f312_2296 : FF 312 2296 (.iconst 3) 1 0 0 0 0 := rfl
set_option maxRecDepth 20000 in
theorem f312_2297 : FF 312 2297 (.iadd) 1 0 0 0 0 := rfl
set_option maxRecDepth 20000 in
theorem f312_2298 : FF 312 2298 (.iaload) 1 0 0 0 0 := rfl
set_option maxRecDepth 20000 in
theorem f312_2299 : FF 312 2299 (.aload_n 3) 1 0 0 0 0 := rfl
set_option maxRecDepth 20000 in
theorem f312_2300 : FF 312 2300 (.invokestatic 306) 3 309 5 1 1232 := rfl
set_option maxRecDepth 20000 in
theorem f312_2303 : FF 312 2303 (.istore 5) 2 0 0 0 0 := rfl
set_option maxRecDepth 20000 in
theorem f312_2305 : FF 312 2305 (.aload_n 2) 1 0 0 0 0 := rfl
set_option maxRecDepth 20000 in
theorem f312_2306 : FF 312 2306 (.aload_n 0) 1 0 0 0 0 := rfl
set_option maxRecDepth 20000 in
theorem f312_2307 : FF 312 2307 (.iload 4) 2 0 0 0 0 := rfl
set_option maxRecDepth 20000 in
theorem f312_2309 : FF 312 2309 (.iconst 1) 1 0 0 0 0 := rfl
set_option maxRecDepth 20000 in
theorem f312_2310 : FF 312 2310 (.iadd) 1 0 0 0 0 := rfl
set_option maxRecDepth 20000 in
theorem f312_2311 : FF 312 2311 (.iaload) 1 0 0 0 0 := rfl
set_option maxRecDepth 20000 in
theorem f312_2312 : FF 312 2312 (.aload_n 0) 1 0 0 0 0 := rfl
set_option maxRecDepth 20000 in
theorem f312_2313 : FF 312 2313 (.iload 4) 2 0 0 0 0 := rfl
set_option maxRecDepth 20000 in
theorem f312_2315 : FF 312 2315 (.iconst 2) 1 0 0 0 0 := rfl
set_option maxRecDepth 20000 in
theorem f312_2316 : FF 312 2316 (.iadd) 1 0 0 0 0 := rfl
set_option maxRecDepth 20000 in
theorem f312_2317 : FF 312 2317 (.iaload) 1 0 0 0 0 := rfl
set_option maxRecDepth 20000 in
theorem f312_2318 : FF 312 2318 (.aload_n 0) 1 0 0 0 0 := rfl
set_option maxRecDepth 20000 in
theorem f312_2319 : FF 312 2319 (.iload 4) 2 0 0 0 0 := rfl
set_option maxRecDepth 20000 in
theorem f312_2321 : FF 312 2321 (.iconst 3) 1 0 0 0 0 := rfl
set_option maxRecDepth 20000 in
theorem f312_2322 : FF 312 2322 (.iadd) 1 0 0 0 0 := rfl
set_option maxRecDepth 20000 in
theorem f312_2323 : FF 312 2323 (.iaload) 1 0 0 0 0 := rfl
set_option maxRecDepth 20000 in
theorem f312_2324 : FF 312 2324 (.invokevirtual 309) 3 276 3 0 1906 := rfl
set_option maxRecDepth 20000 in
theorem f312_2327 : FF 312 2327 (.istore 6) 2 0 0 0 0 := rfl
set_option maxRecDepth 20000 in
theorem f312_2329 : FF 312 2329 (.aload_n 2) 1 0 0 0 0 := rfl
set_option maxRecDepth 20000 in
theorem f312_2330 : FF 312 2330 (.invokevirtual 158) 3 147 0 0 1411 := rfl
set_option maxRecDepth 20000 in
theorem f312_2333 : FF 312 2333 (.iload 5) 2 0 0 0 0 := rfl
set_option maxRecDepth 20000 in
theorem f312_2335 : FF 312 2335 (.if_icmp .eq 5) 3 0 0 0 0 := rfl
set_option maxRecDepth 20000 in
theorem f312_2338 : FF 312 2338 (.iconst 0) 1 0 0 0 0 := rfl
set_option maxRecDepth 20000 in
theorem f312_2339 : FF 312 2339 (.ireturn) 1 0 0 0 0 := rfl
set_option maxRecDepth 20000 in
theorem f312_2340 : FF 312 2340 (.iload 5) 2 0 0 0 0 := rfl
set_option maxRecDepth 20000 in
theorem f312_2342 : FF 312 2342 (.ifCond .ne 15) 3 0 0 0 0 := rfl
set_option maxRecDepth 20000 in
theorem f312_2345 : FF 312 2345 (.aload_n 3) 1 0 0 0 0 := rfl
set_option maxRecDepth 20000 in
theorem f312_2346 : FF 312 2346 (.iconst 0) 1 0 0 0 0 := rfl
set_option maxRecDepth 20000 in
theorem f312_2347 : FF 312 2347 (.laload) 1 0 0 0 0 := rfl
set_option maxRecDepth 20000 in
theorem f312_2348 : FF 312 2348 (.iload 6) 2 0 0 0 0 := rfl
set_option maxRecDepth 20000 in
theorem f312_2350 : FF 312 2350 (.i2l) 1 0 0 0 0 := rfl
set_option maxRecDepth 20000 in
theorem f312_2351 : FF 312 2351 (.lcmp) 1 0 0 0 0 := rfl
set_option maxRecDepth 20000 in
theorem f312_2352 : FF 312 2352 (.ifCond .eq 5) 3 0 0 0 0 := rfl
set_option maxRecDepth 20000 in
theorem f312_2355 : FF 312 2355 (.iconst 0) 1 0 0 0 0 := rfl
set_option maxRecDepth 20000 in
theorem f312_2356 : FF 312 2356 (.ireturn) 1 0 0 0 0 := rfl
set_option maxRecDepth 20000 in
theorem f312_2357 : FF 312 2357 (.goto 142) 3 0 0 0 0 := rfl
set_option maxRecDepth 20000 in
theorem f312_2360 : FF 312 2360 (.aload_n 1) 1 0 0 0 0 := rfl
set_option maxRecDepth 20000 in
theorem f312_2361 : FF 312 2361 (.aload_n 3) 1 0 0 0 0 := rfl
set_option maxRecDepth 20000 in
theorem f312_2362 : FF 312 2362 (.invokestatic 310) 3 310 2 1 1241 := rfl
set_option maxRecDepth 20000 in
theorem f312_2365 : FF 312 2365 (.istore 5) 2 0 0 0 0 := rfl
set_option maxRecDepth 20000 in
theorem f312_2367 : FF 312 2367 (.aload_n 2) 1 0 0 0 0 := rfl
set_option maxRecDepth 20000 in
theorem f312_2368 : FF 312 2368 (.invokevirtual 313) 3 277 0 0 1914 := rfl
set_option maxRecDepth 20000 in
theorem f312_2371 : FF 312 2371 (.istore 6) 2 0 0 0 0 := rfl
set_option maxRecDepth 20000 in
theorem f312_2373 : FF 312 2373 (.aload_n 2) 1 0 0 0 0 := rfl
set_option maxRecDepth 20000 in
theorem f312_2374 : FF 312 2374 (.invokevirtual 158) 3 147 0 0 1411 := rfl
set_option maxRecDepth 20000 in
theorem f312_2377 : FF 312 2377 (.iload 5) 2 0 0 0 0 := rfl
set_option maxRecDepth 20000 in
theorem f312_2379 : FF 312 2379 (.if_icmp .eq 5) 3 0 0 0 0 := rfl
set_option maxRecDepth 20000 in
theorem f312_2382 : FF 312 2382 (.iconst 0) 1 0 0 0 0 := rfl
set_option maxRecDepth 20000 in
theorem f312_2383 : FF 312 2383 (.ireturn) 1 0 0 0 0 := rfl
set_option maxRecDepth 20000 in
theorem f312_2384 : FF 312 2384 (.iload 5) 2 0 0 0 0 := rfl
set_option maxRecDepth 20000 in
theorem f312_2386 : FF 312 2386 (.ifCond .ne 15) 3 0 0 0 0 := rfl
set_option maxRecDepth 20000 in
theorem f312_2389 : FF 312 2389 (.aload_n 3) 1 0 0 0 0 := rfl
set_option maxRecDepth 20000 in
theorem f312_2390 : FF 312 2390 (.iconst 0) 1 0 0 0 0 := rfl
set_option maxRecDepth 20000 in
theorem f312_2391 : FF 312 2391 (.laload) 1 0 0 0 0 := rfl
set_option maxRecDepth 20000 in
theorem f312_2392 : FF 312 2392 (.iload 6) 2 0 0 0 0 := rfl
set_option maxRecDepth 20000 in
theorem f312_2394 : FF 312 2394 (.i2l) 1 0 0 0 0 := rfl
set_option maxRecDepth 20000 in
theorem f312_2395 : FF 312 2395 (.lcmp) 1 0 0 0 0 := rfl
set_option maxRecDepth 20000 in
theorem f312_2396 : FF 312 2396 (.ifCond .eq 5) 3 0 0 0 0 := rfl
set_option maxRecDepth 20000 in
theorem f312_2399 : FF 312 2399 (.iconst 0) 1 0 0 0 0 := rfl
set_option maxRecDepth 20000 in
theorem f312_2400 : FF 312 2400 (.ireturn) 1 0 0 0 0 := rfl
set_option maxRecDepth 20000 in
theorem f312_2401 : FF 312 2401 (.goto 98) 3 0 0 0 0 := rfl
set_option maxRecDepth 20000 in
theorem f312_2404 : FF 312 2404 (.aload_n 1) 1 0 0 0 0 := rfl
set_option maxRecDepth 20000 in
theorem f312_2405 : FF 312 2405 (.invokevirtual 314) 3 128 0 0 925 := rfl
set_option maxRecDepth 20000 in
theorem f312_2408 : FF 312 2408 (.aload_n 2) 1 0 0 0 0 := rfl
set_option maxRecDepth 20000 in
theorem f312_2409 : FF 312 2409 (.invokevirtual 317) 3 280 0 0 1918 := rfl
set_option maxRecDepth 20000 in
theorem f312_2412 : FF 312 2412 (.if_icmp .eq 87) 3 0 0 0 0 := rfl
set_option maxRecDepth 20000 in
theorem f312_2415 : FF 312 2415 (.iconst 0) 1 0 0 0 0 := rfl
set_option maxRecDepth 20000 in
theorem f312_2416 : FF 312 2416 (.ireturn) 1 0 0 0 0 := rfl
set_option maxRecDepth 20000 in
theorem f312_2417 : FF 312 2417 (.aload_n 1) 1 0 0 0 0 := rfl
set_option maxRecDepth 20000 in
theorem f312_2418 : FF 312 2418 (.aload_n 0) 1 0 0 0 0 := rfl
set_option maxRecDepth 20000 in
theorem f312_2419 : FF 312 2419 (.iload 4) 2 0 0 0 0 := rfl
set_option maxRecDepth 20000 in
theorem f312_2421 : FF 312 2421 (.iconst 1) 1 0 0 0 0 := rfl
set_option maxRecDepth 20000 in
theorem f312_2422 : FF 312 2422 (.iadd) 1 0 0 0 0 := rfl
set_option maxRecDepth 20000 in
theorem f312_2423 : FF 312 2423 (.iaload) 1 0 0 0 0 := rfl
set_option maxRecDepth 20000 in
theorem f312_2424 : FF 312 2424 (.invokevirtual 318) 3 129 1 0 937 := rfl
set_option maxRecDepth 20000 in
theorem f312_2427 : FF 312 2427 (.aload_n 2) 1 0 0 0 0 := rfl
set_option maxRecDepth 20000 in
theorem f312_2428 : FF 312 2428 (.aload_n 0) 1 0 0 0 0 := rfl
set_option maxRecDepth 20000 in
theorem f312_2429 : FF 312 2429 (.iload 4) 2 0 0 0 0 := rfl
set_option maxRecDepth 20000 in
theorem f312_2431 : FF 312 2431 (.iconst 1) 1 0 0 0 0 := rfl
set_option maxRecDepth 20000 in
theorem f312_2432 : FF 312 2432 (.iadd) 1 0 0 0 0 := rfl
set_option maxRecDepth 20000 in
theorem f312_2433 : FF 312 2433 (.iaload) 1 0 0 0 0 := rfl
set_option maxRecDepth 20000 in
theorem f312_2434 : FF 312 2434 (.invokevirtual 321) 3 281 1 0 1930 := rfl
set_option maxRecDepth 20000 in
theorem f312_2437 : FF 312 2437 (.if_icmp .eq 62) 3 0 0 0 0 := rfl
set_option maxRecDepth 20000 in
theorem f312_2440 : FF 312 2440 (.iconst 0) 1 0 0 0 0 := rfl
set_option maxRecDepth 20000 in
theorem f312_2441 : FF 312 2441 (.ireturn) 1 0 0 0 0 := rfl
set_option maxRecDepth 20000 in
theorem f312_2442 : FF 312 2442 (.aload_n 1) 1 0 0 0 0 := rfl
set_option maxRecDepth 20000 in
theorem f312_2443 : FF 312 2443 (.invokevirtual 322) 3 130 0 0 941 := rfl
set_option maxRecDepth 20000 in
theorem f312_2446 : FF 312 2446 (.aload_n 2) 1 0 0 0 0 := rfl
set_option maxRecDepth 20000 in
theorem f312_2447 : FF 312 2447 (.invokevirtual 325) 3 282 0 0 1934 := rfl
set_option maxRecDepth 20000 in
theorem f312_2450 : FF 312 2450 (.if_icmp .eq 49) 3 0 0 0 0 := rfl
set_option maxRecDepth 20000 in
theorem f312_2453 : FF 312 2453 (.iconst 0) 1 0 0 0 0 := rfl
set_option maxRecDepth 20000 in
theorem f312_2454 : FF 312 2454 (.ireturn) 1 0 0 0 0 := rfl
set_option maxRecDepth 20000 in
theorem f312_2455 : FF 312 2455 (.aload_n 1) 1 0 0 0 0 := rfl
set_option maxRecDepth 20000 in
theorem f312_2456 : FF 312 2456 (.aload_n 3) 1 0 0 0 0 := rfl
set_option maxRecDepth 20000 in
theorem f312_2457 : FF 312 2457 (.invokestatic 326) 3 311 2 1 1272 := rfl
set_option maxRecDepth 20000 in
theorem f312_2460 : FF 312 2460 (.istore 5) 2 0 0 0 0 := rfl
set_option maxRecDepth 20000 in
theorem f312_2462 : FF 312 2462 (.aload_n 2) 1 0 0 0 0 := rfl
set_option maxRecDepth 20000 in
theorem f312_2463 : FF 312 2463 (.invokevirtual 328) 3 283 0 0 1938 := rfl
set_option maxRecDepth 20000 in
theorem f312_2466 : FF 312 2466 (.istore 6) 2 0 0 0 0 := rfl
set_option maxRecDepth 20000 in
theorem f312_2468 : FF 312 2468 (.aload_n 2) 1 0 0 0 0 := rfl
set_option maxRecDepth 20000 in
theorem f312_2469 : FF 312 2469 (.invokevirtual 158) 3 147 0 0 1411 := rfl
set_option maxRecDepth 20000 in
theorem f312_2472 : FF 312 2472 (.iload 5) 2 0 0 0 0 := rfl
set_option maxRecDepth 20000 in
theorem f312_2474 : FF 312 2474 (.if_icmp .eq 5) 3 0 0 0 0 := rfl
set_option maxRecDepth 20000 in
theorem f312_2477 : FF 312 2477 (.iconst 0) 1 0 0 0 0 := rfl
set_option maxRecDepth 20000 in
theorem f312_2478 : FF 312 2478 (.ireturn) 1 0 0 0 0 := rfl
set_option maxRecDepth 20000 in
theorem f312_2479 : FF 312 2479 (.iload 5) 2 0 0 0 0 := rfl
set_option maxRecDepth 20000 in
theorem f312_2481 : FF 312 2481 (.ifCond .ne 15) 3 0 0 0 0 := rfl
set_option maxRecDepth 20000 in
theorem f312_2484 : FF 312 2484 (.aload_n 3) 1 0 0 0 0 := rfl
set_option maxRecDepth 20000 in
theorem f312_2485 : FF 312 2485 (.iconst 0) 1 0 0 0 0 := rfl
set_option maxRecDepth 20000 in
theorem f312_2486 : FF 312 2486 (.laload) 1 0 0 0 0 := rfl
set_option maxRecDepth 20000 in
theorem f312_2487 : FF 312 2487 (.iload 6) 2 0 0 0 0 := rfl
set_option maxRecDepth 20000 in
theorem f312_2489 : FF 312 2489 (.i2l) 1 0 0 0 0 := rfl
set_option maxRecDepth 20000 in
theorem f312_2490 : FF 312 2490 (.lcmp) 1 0 0 0 0 := rfl
set_option maxRecDepth 20000 in
theorem f312_2491 : FF 312 2491 (.ifCond .eq 5) 3 0 0 0 0 := rfl
set_option maxRecDepth 20000 in
theorem f312_2494 : FF 312 2494 (.iconst 0) 1 0 0 0 0 := rfl
set_option maxRecDepth 20000 in
theorem f312_2495 : FF 312 2495 (.ireturn) 1 0 0 0 0 := rfl
set_option maxRecDepth 20000 in
theorem f312_2496 : FF 312 2496 (.goto 3) 3 0 0 0 0 := rfl
set_option maxRecDepth 20000 in
theorem f312_2499 : FF 312 2499 (.iinc 4 6) 3 0 0 0 0 := rfl
set_option maxRecDepth 20000 in
theorem f312_2502 : FF 312 2502 (.goto (-2479)) 3 0 0 0 0 := rfl
set_option maxRecDepth 20000 in
theorem f312_2505 : FF 312 2505 (.iconst 1) 1 0 0 0 0 := rfl
set_option maxRecDepth 20000 in
theorem f312_2506 : FF 312 2506 (.ireturn) 1 0 0 0 0 := rfl
