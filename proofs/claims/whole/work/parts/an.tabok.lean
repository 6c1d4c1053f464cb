/-! the tables are as the bridge wants them -/
theorem rall {f : Nat → Bool} {k n m : Nat} (h : (List.range' k n).all f = true) (h1 : k ≤ m) (h2 : m < k + n) : f m = true := List.all_eq_true.mp h m (List.mem_range'_1.mpr ⟨h1, h2⟩)
theorem tabM {m : Nat} (h : m < 312) : mchk m = true := by
  by_cases h4 : m < 4
  · exact rall tab_m_0 (by omega) (by omega)
  by_cases h8 : m < 8
  · exact rall tab_m_4 (by omega) (by omega)
  by_cases h12 : m < 12
  · exact rall tab_m_8 (by omega) (by omega)
  by_cases h16 : m < 16
  · exact rall tab_m_12 (by omega) (by omega)
  by_cases h20 : m < 20
  · exact rall tab_m_16 (by omega) (by omega)
  by_cases h24 : m < 24
  · exact rall tab_m_20 (by omega) (by omega)
  by_cases h28 : m < 28
  · exact rall tab_m_24 (by omega) (by omega)
  by_cases h32 : m < 32
  · exact rall tab_m_28 (by omega) (by omega)
  by_cases h36 : m < 36
  · exact rall tab_m_32 (by omega) (by omega)
  by_cases h40 : m < 40
  · exact rall tab_m_36 (by omega) (by omega)
  by_cases h44 : m < 44
  · exact rall tab_m_40 (by omega) (by omega)
  by_cases h48 : m < 48
  · exact rall tab_m_44 (by omega) (by omega)
  by_cases h52 : m < 52
  · exact rall tab_m_48 (by omega) (by omega)
  by_cases h56 : m < 56
  · exact rall tab_m_52 (by omega) (by omega)
  by_cases h60 : m < 60
  · exact rall tab_m_56 (by omega) (by omega)
  by_cases h64 : m < 64
  · exact rall tab_m_60 (by omega) (by omega)
  by_cases h68 : m < 68
  · exact rall tab_m_64 (by omega) (by omega)
  by_cases h72 : m < 72
  · exact rall tab_m_68 (by omega) (by omega)
  by_cases h76 : m < 76
  · exact rall tab_m_72 (by omega) (by omega)
  by_cases h80 : m < 80
  · exact rall tab_m_76 (by omega) (by omega)
  by_cases h84 : m < 84
  · exact rall tab_m_80 (by omega) (by omega)
  by_cases h88 : m < 88
  · exact rall tab_m_84 (by omega) (by omega)
  by_cases h92 : m < 92
  · exact rall tab_m_88 (by omega) (by omega)
  by_cases h96 : m < 96
  · exact rall tab_m_92 (by omega) (by omega)
  by_cases h100 : m < 100
  · exact rall tab_m_96 (by omega) (by omega)
  by_cases h104 : m < 104
  · exact rall tab_m_100 (by omega) (by omega)
  by_cases h108 : m < 108
  · exact rall tab_m_104 (by omega) (by omega)
  by_cases h112 : m < 112
  · exact rall tab_m_108 (by omega) (by omega)
  by_cases h116 : m < 116
  · exact rall tab_m_112 (by omega) (by omega)
  by_cases h120 : m < 120
  · exact rall tab_m_116 (by omega) (by omega)
  by_cases h124 : m < 124
  · exact rall tab_m_120 (by omega) (by omega)
  by_cases h128 : m < 128
  · exact rall tab_m_124 (by omega) (by omega)
  by_cases h132 : m < 132
  · exact rall tab_m_128 (by omega) (by omega)
  by_cases h136 : m < 136
  · exact rall tab_m_132 (by omega) (by omega)
  by_cases h140 : m < 140
  · exact rall tab_m_136 (by omega) (by omega)
  by_cases h144 : m < 144
  · exact rall tab_m_140 (by omega) (by omega)
  by_cases h148 : m < 148
  · exact rall tab_m_144 (by omega) (by omega)
  by_cases h152 : m < 152
  · exact rall tab_m_148 (by omega) (by omega)
  by_cases h156 : m < 156
  · exact rall tab_m_152 (by omega) (by omega)
  by_cases h160 : m < 160
  · exact rall tab_m_156 (by omega) (by omega)
  by_cases h164 : m < 164
  · exact rall tab_m_160 (by omega) (by omega)
  by_cases h168 : m < 168
  · exact rall tab_m_164 (by omega) (by omega)
  by_cases h172 : m < 172
  · exact rall tab_m_168 (by omega) (by omega)
  by_cases h176 : m < 176
  · exact rall tab_m_172 (by omega) (by omega)
  by_cases h180 : m < 180
  · exact rall tab_m_176 (by omega) (by omega)
  by_cases h184 : m < 184
  · exact rall tab_m_180 (by omega) (by omega)
  by_cases h188 : m < 188
  · exact rall tab_m_184 (by omega) (by omega)
  by_cases h192 : m < 192
  · exact rall tab_m_188 (by omega) (by omega)
  by_cases h196 : m < 196
  · exact rall tab_m_192 (by omega) (by omega)
  by_cases h200 : m < 200
  · exact rall tab_m_196 (by omega) (by omega)
  by_cases h204 : m < 204
  · exact rall tab_m_200 (by omega) (by omega)
  by_cases h208 : m < 208
  · exact rall tab_m_204 (by omega) (by omega)
  by_cases h212 : m < 212
  · exact rall tab_m_208 (by omega) (by omega)
  by_cases h216 : m < 216
  · exact rall tab_m_212 (by omega) (by omega)
  by_cases h220 : m < 220
  · exact rall tab_m_216 (by omega) (by omega)
  by_cases h224 : m < 224
  · exact rall tab_m_220 (by omega) (by omega)
  by_cases h228 : m < 228
  · exact rall tab_m_224 (by omega) (by omega)
  by_cases h232 : m < 232
  · exact rall tab_m_228 (by omega) (by omega)
  by_cases h236 : m < 236
  · exact rall tab_m_232 (by omega) (by omega)
  by_cases h240 : m < 240
  · exact rall tab_m_236 (by omega) (by omega)
  by_cases h244 : m < 244
  · exact rall tab_m_240 (by omega) (by omega)
  by_cases h248 : m < 248
  · exact rall tab_m_244 (by omega) (by omega)
  by_cases h252 : m < 252
  · exact rall tab_m_248 (by omega) (by omega)
  by_cases h256 : m < 256
  · exact rall tab_m_252 (by omega) (by omega)
  by_cases h260 : m < 260
  · exact rall tab_m_256 (by omega) (by omega)
  by_cases h264 : m < 264
  · exact rall tab_m_260 (by omega) (by omega)
  by_cases h268 : m < 268
  · exact rall tab_m_264 (by omega) (by omega)
  by_cases h272 : m < 272
  · exact rall tab_m_268 (by omega) (by omega)
  by_cases h276 : m < 276
  · exact rall tab_m_272 (by omega) (by omega)
  by_cases h280 : m < 280
  · exact rall tab_m_276 (by omega) (by omega)
  by_cases h284 : m < 284
  · exact rall tab_m_280 (by omega) (by omega)
  by_cases h288 : m < 288
  · exact rall tab_m_284 (by omega) (by omega)
  by_cases h292 : m < 292
  · exact rall tab_m_288 (by omega) (by omega)
  by_cases h296 : m < 296
  · exact rall tab_m_292 (by omega) (by omega)
  by_cases h300 : m < 300
  · exact rall tab_m_296 (by omega) (by omega)
  by_cases h304 : m < 304
  · exact rall tab_m_300 (by omega) (by omega)
  by_cases h308 : m < 308
  · exact rall tab_m_304 (by omega) (by omega)
  exact rall tab_m_308 (by omega) (by omega)
theorem tabH {m : Nat} (h : m < 312) : hchk m = true := by
  by_cases h24 : m < 24
  · exact rall tab_h_0 (by omega) (by omega)
  by_cases h48 : m < 48
  · exact rall tab_h_24 (by omega) (by omega)
  by_cases h72 : m < 72
  · exact rall tab_h_48 (by omega) (by omega)
  by_cases h96 : m < 96
  · exact rall tab_h_72 (by omega) (by omega)
  by_cases h120 : m < 120
  · exact rall tab_h_96 (by omega) (by omega)
  by_cases h144 : m < 144
  · exact rall tab_h_120 (by omega) (by omega)
  by_cases h168 : m < 168
  · exact rall tab_h_144 (by omega) (by omega)
  by_cases h192 : m < 192
  · exact rall tab_h_168 (by omega) (by omega)
  by_cases h216 : m < 216
  · exact rall tab_h_192 (by omega) (by omega)
  by_cases h240 : m < 240
  · exact rall tab_h_216 (by omega) (by omega)
  by_cases h264 : m < 264
  · exact rall tab_h_240 (by omega) (by omega)
  by_cases h288 : m < 288
  · exact rall tab_h_264 (by omega) (by omega)
  exact rall tab_h_288 (by omega) (by omega)
theorem tabT {m : Nat} (h : m < 312) : (am_code m).all (tchk m) = true := by
  by_cases h2 : m < 2
  · exact rall tab_t_0 (by omega) (by omega)
  by_cases h3 : m < 3
  · exact rall tab_t_2 (by omega) (by omega)
  by_cases h4 : m < 4
  · exact rall tab_t_3 (by omega) (by omega)
  by_cases h5 : m < 5
  · exact rall tab_t_4 (by omega) (by omega)
  by_cases h6 : m < 6
  · exact rall tab_t_5 (by omega) (by omega)
  by_cases h7 : m < 7
  · exact rall tab_t_6 (by omega) (by omega)
  by_cases h9 : m < 9
  · exact rall tab_t_7 (by omega) (by omega)
  by_cases h11 : m < 11
  · exact rall tab_t_9 (by omega) (by omega)
  by_cases h12 : m < 12
  · exact rall tab_t_11 (by omega) (by omega)
  by_cases h13 : m < 13
  · exact rall tab_t_12 (by omega) (by omega)
  by_cases h14 : m < 14
  · exact rall tab_t_13 (by omega) (by omega)
  by_cases h15 : m < 15
  · exact rall tab_t_14 (by omega) (by omega)
  by_cases h16 : m < 16
  · exact rall tab_t_15 (by omega) (by omega)
  by_cases h18 : m < 18
  · exact rall tab_t_16 (by omega) (by omega)
  by_cases h20 : m < 20
  · exact rall tab_t_18 (by omega) (by omega)
  by_cases h23 : m < 23
  · exact rall tab_t_20 (by omega) (by omega)
  by_cases h25 : m < 25
  · exact rall tab_t_23 (by omega) (by omega)
  by_cases h26 : m < 26
  · exact rall tab_t_25 (by omega) (by omega)
  by_cases h27 : m < 27
  · exact rall tab_t_26 (by omega) (by omega)
  by_cases h30 : m < 30
  · exact rall tab_t_27 (by omega) (by omega)
  by_cases h32 : m < 32
  · exact rall tab_t_30 (by omega) (by omega)
  by_cases h34 : m < 34
  · exact rall tab_t_32 (by omega) (by omega)
  by_cases h35 : m < 35
  · exact rall tab_t_34 (by omega) (by omega)
  by_cases h36 : m < 36
  · exact rall tab_t_35 (by omega) (by omega)
  by_cases h37 : m < 37
  · exact rall tab_t_36 (by omega) (by omega)
  by_cases h38 : m < 38
  · exact rall tab_t_37 (by omega) (by omega)
  by_cases h39 : m < 39
  · exact rall tab_t_38 (by omega) (by omega)
  by_cases h40 : m < 40
  · exact rall tab_t_39 (by omega) (by omega)
  by_cases h41 : m < 41
  · exact rall tab_t_40 (by omega) (by omega)
  by_cases h42 : m < 42
  · exact rall tab_t_41 (by omega) (by omega)
  by_cases h44 : m < 44
  · exact rall tab_t_42 (by omega) (by omega)
  by_cases h45 : m < 45
  · exact rall tab_t_44 (by omega) (by omega)
  by_cases h46 : m < 46
  · exact rall tab_t_45 (by omega) (by omega)
  by_cases h47 : m < 47
  · exact rall tab_t_46 (by omega) (by omega)
  by_cases h48 : m < 48
  · exact rall tab_t_47 (by omega) (by omega)
  by_cases h49 : m < 49
  · exact rall tab_t_48 (by omega) (by omega)
  by_cases h50 : m < 50
  · exact rall tab_t_49 (by omega) (by omega)
  by_cases h51 : m < 51
  · exact rall tab_t_50 (by omega) (by omega)
  by_cases h52 : m < 52
  · exact rall tab_t_51 (by omega) (by omega)
  by_cases h53 : m < 53
  · exact rall tab_t_52 (by omega) (by omega)
  by_cases h54 : m < 54
  · exact rall tab_t_53 (by omega) (by omega)
  by_cases h56 : m < 56
  · exact rall tab_t_54 (by omega) (by omega)
  by_cases h57 : m < 57
  · exact rall tab_t_56 (by omega) (by omega)
  by_cases h58 : m < 58
  · exact rall tab_t_57 (by omega) (by omega)
  by_cases h59 : m < 59
  · exact rall tab_t_58 (by omega) (by omega)
  by_cases h60 : m < 60
  · exact rall tab_t_59 (by omega) (by omega)
  by_cases h61 : m < 61
  · exact rall tab_t_60 (by omega) (by omega)
  by_cases h62 : m < 62
  · exact rall tab_t_61 (by omega) (by omega)
  by_cases h63 : m < 63
  · exact rall tab_t_62 (by omega) (by omega)
  by_cases h64 : m < 64
  · exact rall tab_t_63 (by omega) (by omega)
  by_cases h65 : m < 65
  · exact rall tab_t_64 (by omega) (by omega)
  by_cases h67 : m < 67
  · exact rall tab_t_65 (by omega) (by omega)
  by_cases h69 : m < 69
  · exact rall tab_t_67 (by omega) (by omega)
  by_cases h70 : m < 70
  · exact rall tab_t_69 (by omega) (by omega)
  by_cases h71 : m < 71
  · exact rall tab_t_70 (by omega) (by omega)
  by_cases h72 : m < 72
  · exact rall tab_t_71 (by omega) (by omega)
  by_cases h73 : m < 73
  · exact rall tab_t_72 (by omega) (by omega)
  by_cases h74 : m < 74
  · exact rall tab_t_73 (by omega) (by omega)
  by_cases h75 : m < 75
  · exact rall tab_t_74 (by omega) (by omega)
  by_cases h76 : m < 76
  · exact rall tab_t_75 (by omega) (by omega)
  by_cases h79 : m < 79
  · exact rall tab_t_76 (by omega) (by omega)
  by_cases h85 : m < 85
  · exact rall tab_t_79 (by omega) (by omega)
  by_cases h88 : m < 88
  · exact rall tab_t_85 (by omega) (by omega)
  by_cases h91 : m < 91
  · exact rall tab_t_88 (by omega) (by omega)
  by_cases h94 : m < 94
  · exact rall tab_t_91 (by omega) (by omega)
  by_cases h96 : m < 96
  · exact rall tab_t_94 (by omega) (by omega)
  by_cases h98 : m < 98
  · exact rall tab_t_96 (by omega) (by omega)
  by_cases h99 : m < 99
  · exact rall tab_t_98 (by omega) (by omega)
  by_cases h100 : m < 100
  · exact rall tab_t_99 (by omega) (by omega)
  by_cases h101 : m < 101
  · exact rall tab_t_100 (by omega) (by omega)
  by_cases h105 : m < 105
  · exact rall tab_t_101 (by omega) (by omega)
  by_cases h107 : m < 107
  · exact rall tab_t_105 (by omega) (by omega)
  by_cases h109 : m < 109
  · exact rall tab_t_107 (by omega) (by omega)
  by_cases h111 : m < 111
  · exact rall tab_t_109 (by omega) (by omega)
  by_cases h114 : m < 114
  · exact rall tab_t_111 (by omega) (by omega)
  by_cases h116 : m < 116
  · exact rall tab_t_114 (by omega) (by omega)
  by_cases h120 : m < 120
  · exact rall tab_t_116 (by omega) (by omega)
  by_cases h121 : m < 121
  · exact rall tab_t_120 (by omega) (by omega)
  by_cases h122 : m < 122
  · exact rall tab_t_121 (by omega) (by omega)
  by_cases h123 : m < 123
  · exact rall tab_t_122 (by omega) (by omega)
  by_cases h124 : m < 124
  · exact rall tab_t_123 (by omega) (by omega)
  by_cases h126 : m < 126
  · exact rall tab_t_124 (by omega) (by omega)
  by_cases h127 : m < 127
  · exact rall tab_t_126 (by omega) (by omega)
  by_cases h128 : m < 128
  · exact rall tab_t_127 (by omega) (by omega)
  by_cases h129 : m < 129
  · exact rall tab_t_128 (by omega) (by omega)
  by_cases h131 : m < 131
  · exact rall tab_t_129 (by omega) (by omega)
  by_cases h134 : m < 134
  · exact rall tab_t_131 (by omega) (by omega)
  by_cases h136 : m < 136
  · exact rall tab_t_134 (by omega) (by omega)
  by_cases h137 : m < 137
  · exact rall tab_t_136 (by omega) (by omega)
  by_cases h139 : m < 139
  · exact rall tab_t_137 (by omega) (by omega)
  by_cases h140 : m < 140
  · exact rall tab_t_139 (by omega) (by omega)
  by_cases h141 : m < 141
  · exact rall tab_t_140 (by omega) (by omega)
  by_cases h143 : m < 143
  · exact rall tab_t_141 (by omega) (by omega)
  by_cases h144 : m < 144
  · exact rall tab_t_143 (by omega) (by omega)
  by_cases h146 : m < 146
  · exact rall tab_t_144 (by omega) (by omega)
  by_cases h147 : m < 147
  · exact rall tab_t_146 (by omega) (by omega)
  by_cases h151 : m < 151
  · exact rall tab_t_147 (by omega) (by omega)
  by_cases h153 : m < 153
  · exact rall tab_t_151 (by omega) (by omega)
  by_cases h154 : m < 154
  · exact rall tab_t_153 (by omega) (by omega)
  by_cases h156 : m < 156
  · exact rall tab_t_154 (by omega) (by omega)
  by_cases h157 : m < 157
  · exact rall tab_t_156 (by omega) (by omega)
  by_cases h158 : m < 158
  · exact rall tab_t_157 (by omega) (by omega)
  by_cases h159 : m < 159
  · exact rall tab_t_158 (by omega) (by omega)
  by_cases h160 : m < 160
  · exact rall tab_t_159 (by omega) (by omega)
  by_cases h162 : m < 162
  · exact rall tab_t_160 (by omega) (by omega)
  by_cases h163 : m < 163
  · exact rall tab_t_162 (by omega) (by omega)
  by_cases h166 : m < 166
  · exact rall tab_t_163 (by omega) (by omega)
  by_cases h168 : m < 168
  · exact rall tab_t_166 (by omega) (by omega)
  by_cases h169 : m < 169
  · exact rall tab_t_168 (by omega) (by omega)
  by_cases h171 : m < 171
  · exact rall tab_t_169 (by omega) (by omega)
  by_cases h172 : m < 172
  · exact rall tab_t_171 (by omega) (by omega)
  by_cases h173 : m < 173
  · exact rall tab_t_172 (by omega) (by omega)
  by_cases h174 : m < 174
  · exact rall tab_t_173 (by omega) (by omega)
  by_cases h175 : m < 175
  · exact rall tab_t_174 (by omega) (by omega)
  by_cases h176 : m < 176
  · exact rall tab_t_175 (by omega) (by omega)
  by_cases h177 : m < 177
  · exact rall tab_t_176 (by omega) (by omega)
  by_cases h178 : m < 178
  · exact rall tab_t_177 (by omega) (by omega)
  by_cases h179 : m < 179
  · exact rall tab_t_178 (by omega) (by omega)
  by_cases h180 : m < 180
  · exact rall tab_t_179 (by omega) (by omega)
  by_cases h181 : m < 181
  · exact rall tab_t_180 (by omega) (by omega)
  by_cases h182 : m < 182
  · exact rall tab_t_181 (by omega) (by omega)
  by_cases h185 : m < 185
  · exact rall tab_t_182 (by omega) (by omega)
  by_cases h186 : m < 186
  · exact rall tab_t_185 (by omega) (by omega)
  by_cases h187 : m < 187
  · exact rall tab_t_186 (by omega) (by omega)
  by_cases h188 : m < 188
  · exact rall tab_t_187 (by omega) (by omega)
  by_cases h189 : m < 189
  · exact rall tab_t_188 (by omega) (by omega)
  by_cases h192 : m < 192
  · exact rall tab_t_189 (by omega) (by omega)
  by_cases h193 : m < 193
  · exact rall tab_t_192 (by omega) (by omega)
  by_cases h194 : m < 194
  · exact rall tab_t_193 (by omega) (by omega)
  by_cases h195 : m < 195
  · exact rall tab_t_194 (by omega) (by omega)
  by_cases h197 : m < 197
  · exact rall tab_t_195 (by omega) (by omega)
  by_cases h199 : m < 199
  · exact rall tab_t_197 (by omega) (by omega)
  by_cases h200 : m < 200
  · exact rall tab_t_199 (by omega) (by omega)
  by_cases h202 : m < 202
  · exact rall tab_t_200 (by omega) (by omega)
  by_cases h204 : m < 204
  · exact rall tab_t_202 (by omega) (by omega)
  by_cases h205 : m < 205
  · exact rall tab_t_204 (by omega) (by omega)
  by_cases h206 : m < 206
  · exact rall tab_t_205 (by omega) (by omega)
  by_cases h207 : m < 207
  · exact rall tab_t_206 (by omega) (by omega)
  by_cases h208 : m < 208
  · exact rall tab_t_207 (by omega) (by omega)
  by_cases h209 : m < 209
  · exact rall tab_t_208 (by omega) (by omega)
  by_cases h210 : m < 210
  · exact rall tab_t_209 (by omega) (by omega)
  by_cases h211 : m < 211
  · exact rall tab_t_210 (by omega) (by omega)
  by_cases h212 : m < 212
  · exact rall tab_t_211 (by omega) (by omega)
  by_cases h213 : m < 213
  · exact rall tab_t_212 (by omega) (by omega)
  by_cases h215 : m < 215
  · exact rall tab_t_213 (by omega) (by omega)
  by_cases h216 : m < 216
  · exact rall tab_t_215 (by omega) (by omega)
  by_cases h217 : m < 217
  · exact rall tab_t_216 (by omega) (by omega)
  by_cases h218 : m < 218
  · exact rall tab_t_217 (by omega) (by omega)
  by_cases h219 : m < 219
  · exact rall tab_t_218 (by omega) (by omega)
  by_cases h220 : m < 220
  · exact rall tab_t_219 (by omega) (by omega)
  by_cases h221 : m < 221
  · exact rall tab_t_220 (by omega) (by omega)
  by_cases h226 : m < 226
  · exact rall tab_t_221 (by omega) (by omega)
  by_cases h231 : m < 231
  · exact rall tab_t_226 (by omega) (by omega)
  by_cases h233 : m < 233
  · exact rall tab_t_231 (by omega) (by omega)
  by_cases h235 : m < 235
  · exact rall tab_t_233 (by omega) (by omega)
  by_cases h237 : m < 237
  · exact rall tab_t_235 (by omega) (by omega)
  by_cases h239 : m < 239
  · exact rall tab_t_237 (by omega) (by omega)
  by_cases h241 : m < 241
  · exact rall tab_t_239 (by omega) (by omega)
  by_cases h243 : m < 243
  · exact rall tab_t_241 (by omega) (by omega)
  by_cases h245 : m < 245
  · exact rall tab_t_243 (by omega) (by omega)
  by_cases h247 : m < 247
  · exact rall tab_t_245 (by omega) (by omega)
  by_cases h249 : m < 249
  · exact rall tab_t_247 (by omega) (by omega)
  by_cases h251 : m < 251
  · exact rall tab_t_249 (by omega) (by omega)
  by_cases h252 : m < 252
  · exact rall tab_t_251 (by omega) (by omega)
  by_cases h253 : m < 253
  · exact rall tab_t_252 (by omega) (by omega)
  by_cases h254 : m < 254
  · exact rall tab_t_253 (by omega) (by omega)
  by_cases h256 : m < 256
  · exact rall tab_t_254 (by omega) (by omega)
  by_cases h257 : m < 257
  · exact rall tab_t_256 (by omega) (by omega)
  by_cases h258 : m < 258
  · exact rall tab_t_257 (by omega) (by omega)
  by_cases h259 : m < 259
  · exact rall tab_t_258 (by omega) (by omega)
  by_cases h260 : m < 260
  · exact rall tab_t_259 (by omega) (by omega)
  by_cases h262 : m < 262
  · exact rall tab_t_260 (by omega) (by omega)
  by_cases h263 : m < 263
  · exact rall tab_t_262 (by omega) (by omega)
  by_cases h264 : m < 264
  · exact rall tab_t_263 (by omega) (by omega)
  by_cases h265 : m < 265
  · exact rall tab_t_264 (by omega) (by omega)
  by_cases h266 : m < 266
  · exact rall tab_t_265 (by omega) (by omega)
  by_cases h267 : m < 267
  · exact rall tab_t_266 (by omega) (by omega)
  by_cases h268 : m < 268
  · exact rall tab_t_267 (by omega) (by omega)
  by_cases h269 : m < 269
  · exact rall tab_t_268 (by omega) (by omega)
  by_cases h270 : m < 270
  · exact rall tab_t_269 (by omega) (by omega)
  by_cases h272 : m < 272
  · exact rall tab_t_270 (by omega) (by omega)
  by_cases h273 : m < 273
  · exact rall tab_t_272 (by omega) (by omega)
  by_cases h275 : m < 275
  · exact rall tab_t_273 (by omega) (by omega)
  by_cases h276 : m < 276
  · exact rall tab_t_275 (by omega) (by omega)
  by_cases h277 : m < 277
  · exact rall tab_t_276 (by omega) (by omega)
  by_cases h278 : m < 278
  · exact rall tab_t_277 (by omega) (by omega)
  by_cases h280 : m < 280
  · exact rall tab_t_278 (by omega) (by omega)
  by_cases h281 : m < 281
  · exact rall tab_t_280 (by omega) (by omega)
  by_cases h283 : m < 283
  · exact rall tab_t_281 (by omega) (by omega)
  by_cases h284 : m < 284
  · exact rall tab_t_283 (by omega) (by omega)
  by_cases h286 : m < 286
  · exact rall tab_t_284 (by omega) (by omega)
  by_cases h288 : m < 288
  · exact rall tab_t_286 (by omega) (by omega)
  by_cases h291 : m < 291
  · exact rall tab_t_288 (by omega) (by omega)
  by_cases h293 : m < 293
  · exact rall tab_t_291 (by omega) (by omega)
  by_cases h295 : m < 295
  · exact rall tab_t_293 (by omega) (by omega)
  by_cases h297 : m < 297
  · exact rall tab_t_295 (by omega) (by omega)
  by_cases h300 : m < 300
  · exact rall tab_t_297 (by omega) (by omega)
  by_cases h303 : m < 303
  · exact rall tab_t_300 (by omega) (by omega)
  by_cases h305 : m < 305
  · exact rall tab_t_303 (by omega) (by omega)
  by_cases h308 : m < 308
  · exact rall tab_t_305 (by omega) (by omega)
  by_cases h309 : m < 309
  · exact rall tab_t_308 (by omega) (by omega)
  by_cases h311 : m < 311
  · exact rall tab_t_309 (by omega) (by omega)
  exact rall tab_t_311 (by omega) (by omega)
theorem tabL : (am_code 312).all (tchk 312) = true := by
  show kc312.all (tchk 312) = true
  unfold kc312
  simp only [List.all_append, tab_l_0, tab_l_1, tab_l_2, tab_l_3, tab_l_4, tab_l_5, tab_l_6, tab_l_7, tab_l_8, tab_l_9, tab_l_10, tab_l_11, tab_l_12, tab_l_13, Bool.and_self, Bool.and_true]
theorem am_code_z {m : Nat} (h : 313 ≤ m) : am_code m = [] := by
  unfold am_code
  rw [List.getD_eq_getElem?_getD, List.getElem?_eq_none (show am_codes.length ≤ m from Nat.le_trans (show am_codes.length ≤ 313 by decide +kernel) h)]
  rfl
theorem tabOK : TabOK := by
  refine ⟨fun m h => tabM h, fun m e he => ?_, fun m h => tabH h, fun r hr => List.all_eq_true.mp tab_r r hr, fun E h => ?_⟩
  · by_cases h : m < 312
    · exact List.all_eq_true.mp (tabT h) e he
    · by_cases h1 : m = 312
      · subst h1
        exact List.all_eq_true.mp tabL e he
      · rw [am_code_z (by omega)] at he
        cases he
  · have h9 := rall tab_E (Nat.zero_le E) (by omega)
    simp only [Bool.and_eq_true, decide_eq_true_eq] at h9
    exact h9
theorem am_hm (m pc : Nat) (h : am_find (am_code m) pc ≠ none) : m < 313 := by
  by_cases h1 : m < 313
  · exact h1
  · rw [am_code_z (by omega)] at h
    exact absurd rfl h
/-- what a field's type is -/
def rTy (ty : FieldType) : Bool := match ty with
  | .object _ => true
  | .array _ => true
  | _ => false
theorem rTy_of {ty : FieldType} (h : rTy ty = true) : (∀ v : Value, v.isRef = true → narrow ty v = v ∧ fits ty v = true) ∧ defaultValue ty = .null := by
  cases ty with
  | object _ => exact ⟨fun v hv => (by cases v <;> first | exact ⟨rfl, rfl⟩ | exact absurd hv Bool.false_ne_true), rfl⟩
  | array _ => exact ⟨fun v hv => (by cases v <;> first | exact ⟨rfl, rfl⟩ | exact absurd hv Bool.false_ne_true), rfl⟩
  | _ => cases h
def uwT (d : String) : Bool := match parseFieldDescriptor d with
  | none => false
  | some ty => (decide (ftc d ≠ 1) || rTy ty) && (decide (ftc d ≠ 0) || decide (ty = .int)) && (decide (ftc d ≠ 2) || decide (ty = .boolean))
theorem uwT_of {d : String} (h : uwT d = true) : ∃ ty, parseFieldDescriptor d = some ty ∧ (ftc d = 1 → (∀ v : Value, v.isRef = true → narrow ty v = v ∧ fits ty v = true) ∧ defaultValue ty = .null) ∧ (ftc d = 0 → ty = .int) ∧ (ftc d = 2 → ty = .boolean) := by
  unfold uwT at h
  split at h
  · cases h
  · next ty hp =>
    simp only [Bool.and_eq_true, Bool.or_eq_true, decide_eq_true_eq] at h
    obtain ⟨⟨h1, h2⟩, h3⟩ := h
    exact ⟨ty, hp, fun e => rTy_of (h1.resolve_left (fun z => z e)), fun e => h2.resolve_left (fun z => z e), fun e => h3.resolve_left (fun z => z e)⟩
def uwD (i : Nat) : Bool := match vwCl[i]? with
  | some (_, T, N) => (List.range N).all (fun k => uwT (T k).2.2.1) && (List.range N).all (fun a => (List.range N).all (fun b => decide (a = b) || decide ((T a).2.1 ≠ (T b).2.1)))
  | none => true
theorem uw_1_0 : uwOK 0 = true := by decide +kernel
theorem uw_2_0 : uwD 0 = true := by decide +kernel
theorem uw_1_1 : uwOK 1 = true := by decide +kernel
theorem uw_2_1 : uwD 1 = true := by decide +kernel
theorem uw_1_2 : uwOK 2 = true := by decide +kernel
theorem uw_2_2 : uwD 2 = true := by decide +kernel
theorem uw_1_3 : uwOK 3 = true := by decide +kernel
theorem uw_2_3 : uwD 3 = true := by decide +kernel
theorem uw_1_4 : uwOK 4 = true := by decide +kernel
theorem uw_2_4 : uwD 4 = true := by decide +kernel
theorem uw_1_5 : uwOK 5 = true := by decide +kernel
theorem uw_2_5 : uwD 5 = true := by decide +kernel
theorem uw_1_6 : uwOK 6 = true := by decide +kernel
theorem uw_2_6 : uwD 6 = true := by decide +kernel
theorem uw_1_7 : uwOK 7 = true := by decide +kernel
theorem uw_2_7 : uwD 7 = true := by decide +kernel
theorem uw_1_8 : uwOK 8 = true := by decide +kernel
theorem uw_2_8 : uwD 8 = true := by decide +kernel
theorem uw_1_9 : uwOK 9 = true := by decide +kernel
theorem uw_2_9 : uwD 9 = true := by decide +kernel
theorem uw_1_10 : uwOK 10 = true := by decide +kernel
theorem uw_2_10 : uwD 10 = true := by decide +kernel
theorem uw_1_11 : uwOK 11 = true := by decide +kernel
theorem uw_2_11 : uwD 11 = true := by decide +kernel
theorem uw_1_12 : uwOK 12 = true := by decide +kernel
theorem uw_2_12 : uwD 12 = true := by decide +kernel
theorem uw_1 {i : Nat} (h : i < 13) : uwOK i = true := by
  match i, h with
  | 0, _ => exact uw_1_0
  | 1, _ => exact uw_1_1
  | 2, _ => exact uw_1_2
  | 3, _ => exact uw_1_3
  | 4, _ => exact uw_1_4
  | 5, _ => exact uw_1_5
  | 6, _ => exact uw_1_6
  | 7, _ => exact uw_1_7
  | 8, _ => exact uw_1_8
  | 9, _ => exact uw_1_9
  | 10, _ => exact uw_1_10
  | 11, _ => exact uw_1_11
  | 12, _ => exact uw_1_12
  | i + 13, h => omega
theorem uw_2 {i : Nat} (h : i < 13) : uwD i = true := by
  match i, h with
  | 0, _ => exact uw_2_0
  | 1, _ => exact uw_2_1
  | 2, _ => exact uw_2_2
  | 3, _ => exact uw_2_3
  | 4, _ => exact uw_2_4
  | 5, _ => exact uw_2_5
  | 6, _ => exact uw_2_6
  | 7, _ => exact uw_2_7
  | 8, _ => exact uw_2_8
  | 9, _ => exact uw_2_9
  | 10, _ => exact uw_2_10
  | 11, _ => exact uw_2_11
  | 12, _ => exact uw_2_12
  | i + 13, h => omega
theorem uW : UW := by
  intro i C T N hv
  have hi : i < 13 := (List.getElem?_eq_some_iff.mp hv).1
  have a1 := uw_1 hi
  have a2 := uw_2 hi
  unfold uwOK at a1
  unfold uwD at a2
  rw [hv] at a1 a2
  dsimp only at a1 a2
  rw [Bool.and_eq_true] at a2
  refine ⟨fun w hw => ?_, fun k hk => uwT_of (List.all_eq_true.mp a2.1 k (List.mem_range.mpr hk)), fun a ha b hb hab => ?_⟩
  · have h9 := List.all_eq_true.mp a1 w hw
    simp only [Bool.and_eq_true, decide_eq_true_eq] at h9
    exact ⟨h9.2, h9.1⟩
  · have h9 := List.all_eq_true.mp (List.all_eq_true.mp a2.2 a (List.mem_range.mpr ha)) b (List.mem_range.mpr hb)
    simp only [Bool.or_eq_true, decide_eq_true_eq] at h9
    exact h9.resolve_left hab
