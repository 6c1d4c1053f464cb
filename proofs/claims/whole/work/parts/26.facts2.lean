/-! the instructions of the class' face -/
theorem f73_0 : FF 73 0 (.aload_n 0) 1 0 0 0 0 := rfl
theorem f73_1 : FF 73 1 (.getfield 10) 3 11 0 1 617 := rfl
theorem f73_4 : FF 73 4 (.getfield 91) 3 3 1 0 43 := rfl
theorem f73_7 : FF 73 7 (.bipush 20) 2 0 0 0 0 := rfl
theorem f73_9 : FF 73 9 (.iadd) 1 0 0 0 0 := rfl
theorem f73_10 : FF 73 10 (.sipush 700) 3 0 0 0 0 := rfl
theorem f73_13 : FF 73 13 (.if_icmp .le 5) 3 0 0 0 0 := rfl
theorem f73_16 : FF 73 16 (.iconst (-1)) 1 0 0 0 0 := rfl
theorem f73_17 : FF 73 17 (.ireturn) 1 0 0 0 0 := rfl
theorem f73_18 : FF 73 18 (.aload_n 0) 1 0 0 0 0 := rfl
theorem f73_19 : FF 73 19 (.getfield 10) 3 11 0 1 617 := rfl
theorem f73_22 : FF 73 22 (.iload_n 1) 1 0 0 0 0 := rfl
theorem f73_23 : FF 73 23 (.invokevirtual 98) 3 18 1 0 665 := rfl
theorem f73_26 : FF 73 26 (.aload_n 0) 1 0 0 0 0 := rfl
theorem f73_27 : FF 73 27 (.getfield 10) 3 11 0 1 617 := rfl
theorem f73_30 : FF 73 30 (.iload_n 2) 1 0 0 0 0 := rfl
theorem f73_31 : FF 73 31 (.invokevirtual 98) 3 18 1 0 665 := rfl
theorem f73_34 : FF 73 34 (.aload_n 0) 1 0 0 0 0 := rfl
theorem f73_35 : FF 73 35 (.getfield 10) 3 11 0 1 617 := rfl
theorem f73_38 : FF 73 38 (.iload_n 3) 1 0 0 0 0 := rfl
theorem f73_39 : FF 73 39 (.invokevirtual 98) 3 18 1 0 665 := rfl
theorem f73_42 : FF 73 42 (.aload_n 0) 1 0 0 0 0 := rfl
theorem f73_43 : FF 73 43 (.getfield 10) 3 11 0 1 617 := rfl
theorem f73_46 : FF 73 46 (.iload 4) 2 0 0 0 0 := rfl
theorem f73_48 : FF 73 48 (.invokevirtual 98) 3 18 1 0 665 := rfl
theorem f73_51 : FF 73 51 (.aload_n 0) 1 0 0 0 0 := rfl
theorem f73_52 : FF 73 52 (.getfield 10) 3 11 0 1 617 := rfl
theorem f73_55 : FF 73 55 (.iload 5) 2 0 0 0 0 := rfl
theorem f73_57 : FF 73 57 (.invokevirtual 98) 3 18 1 0 665 := rfl
theorem f73_60 : FF 73 60 (.aload_n 0) 1 0 0 0 0 := rfl
theorem f73_61 : FF 73 61 (.getfield 10) 3 11 0 1 617 := rfl
theorem f73_64 : FF 73 64 (.getfield 91) 3 3 1 0 43 := rfl
theorem f73_67 : FF 73 67 (.ireturn) 1 0 0 0 0 := rfl
theorem f74_0 : FF 74 0 (.iload_n 1) 1 0 0 0 0 := rfl
theorem f74_1 : FF 74 1 (.ifCond .lt 14) 3 0 0 0 0 := rfl
theorem f74_4 : FF 74 4 (.iload_n 1) 1 0 0 0 0 := rfl
theorem f74_5 : FF 74 5 (.aload_n 0) 1 0 0 0 0 := rfl
theorem f74_6 : FF 74 6 (.getfield 10) 3 11 0 1 617 := rfl
theorem f74_9 : FF 74 9 (.getfield 91) 3 3 1 0 43 := rfl
theorem f74_12 : FF 74 12 (.if_icmp .le 5) 3 0 0 0 0 := rfl
theorem f74_15 : FF 74 15 (.iconst 0) 1 0 0 0 0 := rfl
theorem f74_16 : FF 74 16 (.ireturn) 1 0 0 0 0 := rfl
theorem f74_17 : FF 74 17 (.aload_n 0) 1 0 0 0 0 := rfl
theorem f74_18 : FF 74 18 (.getfield 10) 3 11 0 1 617 := rfl
theorem f74_21 : FF 74 21 (.iload_n 1) 1 0 0 0 0 := rfl
theorem f74_22 : FF 74 22 (.putfield 91) 3 3 1 0 43 := rfl
theorem f74_25 : FF 74 25 (.iconst 1) 1 0 0 0 0 := rfl
theorem f74_26 : FF 74 26 (.ireturn) 1 0 0 0 0 := rfl
theorem f75_0 : FF 75 0 (.aload_n 0) 1 0 0 0 0 := rfl
theorem f75_1 : FF 75 1 (.getfield 65) 3 11 9 1 626 := rfl
theorem f75_4 : FF 75 4 (.aload_n 0) 1 0 0 0 0 := rfl
theorem f75_5 : FF 75 5 (.getfield 10) 3 11 0 1 617 := rfl
theorem f75_8 : FF 75 8 (.invokevirtual 87) 3 49 1 0 457 := rfl
theorem f75_11 : FF 75 11 (.aload_n 0) 1 0 0 0 0 := rfl
theorem f75_12 : FF 75 12 (.invokevirtual 102) 3 137 0 0 677 := rfl
theorem f75_15 : FF 75 15 (.aload_n 0) 1 0 0 0 0 := rfl
theorem f75_16 : FF 75 16 (.getfield 68) 3 11 11 0 628 := rfl
theorem f75_19 : FF 75 19 (.ifCond .eq 5) 3 0 0 0 0 := rfl
theorem f75_22 : FF 75 22 (.iconst (-1)) 1 0 0 0 0 := rfl
theorem f75_23 : FF 75 23 (.ireturn) 1 0 0 0 0 := rfl
theorem f75_24 : FF 75 24 (.aload_n 0) 1 0 0 0 0 := rfl
theorem f75_25 : FF 75 25 (.getfield 61) 3 11 8 1 625 := rfl
theorem f75_28 : FF 75 28 (.astore_n 1) 1 0 0 0 0 := rfl
theorem f75_29 : FF 75 29 (.aload_n 0) 1 0 0 0 0 := rfl
theorem f75_30 : FF 75 30 (.aload_n 0) 1 0 0 0 0 := rfl
theorem f75_31 : FF 75 31 (.getfield 65) 3 11 9 1 626 := rfl
theorem f75_34 : FF 75 34 (.putfield 61) 3 11 8 1 625 := rfl
theorem f75_37 : FF 75 37 (.aload_n 0) 1 0 0 0 0 := rfl
theorem f75_38 : FF 75 38 (.aload_n 1) 1 0 0 0 0 := rfl
theorem f75_39 : FF 75 39 (.putfield 65) 3 11 9 1 626 := rfl
theorem f75_42 : FF 75 42 (.aload_n 0) 1 0 0 0 0 := rfl
theorem f75_43 : FF 75 43 (.getfield 26) 3 11 2 1 619 := rfl
theorem f75_46 : FF 75 46 (.aload_n 0) 1 0 0 0 0 := rfl
theorem f75_47 : FF 75 47 (.getfield 61) 3 11 8 1 625 := rfl
theorem f75_50 : FF 75 50 (.invokevirtual 94) 3 66 1 0 596 := rfl
theorem f75_53 : FF 75 53 (.aload_n 0) 1 0 0 0 0 := rfl
theorem f75_54 : FF 75 54 (.getfield 36) 3 11 4 1 621 := rfl
theorem f75_57 : FF 75 57 (.iconst 0) 1 0 0 0 0 := rfl
theorem f75_58 : FF 75 58 (.putfield 105) 3 2 2 0 207 := rfl
theorem f75_61 : FF 75 61 (.aload_n 0) 1 0 0 0 0 := rfl
theorem f75_62 : FF 75 62 (.iconst 0) 1 0 0 0 0 := rfl
theorem f75_63 : FF 75 63 (.putfield 108) 3 11 13 2 630 := rfl
theorem f75_66 : FF 75 66 (.aload_n 0) 1 0 0 0 0 := rfl
theorem f75_67 : FF 75 67 (.getfield 50) 3 11 6 1 623 := rfl
theorem f75_70 : FF 75 70 (.iconst 0) 1 0 0 0 0 := rfl
theorem f75_71 : FF 75 71 (.putfield 112) 3 8 0 2 253 := rfl
theorem f75_74 : FF 75 74 (.aload_n 0) 1 0 0 0 0 := rfl
theorem f75_75 : FF 75 75 (.getfield 61) 3 11 8 1 625 := rfl
theorem f75_78 : FF 75 78 (.getfield 115) 3 6 0 1 331 := rfl
theorem f75_81 : FF 75 81 (.getfield 119) 3 5 2 0 317 := rfl
theorem f75_84 : FF 75 84 (.ireturn) 1 0 0 0 0 := rfl
theorem f76_0 : FF 76 0 (.aload_n 0) 1 0 0 0 0 := rfl
theorem f76_1 : FF 76 1 (.getfield 19) 3 11 1 1 618 := rfl
theorem f76_4 : FF 76 4 (.aload_n 0) 1 0 0 0 0 := rfl
theorem f76_5 : FF 76 5 (.getfield 10) 3 11 0 1 617 := rfl
theorem f76_8 : FF 76 8 (.aload_n 0) 1 0 0 0 0 := rfl
theorem f76_9 : FF 76 9 (.getfield 61) 3 11 8 1 625 := rfl
theorem f76_12 : FF 76 12 (.invokevirtual 122) 3 56 2 0 685 := rfl
theorem f76_15 : FF 76 15 (.aload_n 0) 1 0 0 0 0 := rfl
theorem f76_16 : FF 76 16 (.invokevirtual 102) 3 137 0 0 677 := rfl
theorem f76_19 : FF 76 19 (.aload_n 0) 1 0 0 0 0 := rfl
theorem f76_20 : FF 76 20 (.getfield 68) 3 11 11 0 628 := rfl
theorem f76_23 : FF 76 23 (.ifCond .eq 5) 3 0 0 0 0 := rfl
theorem f76_26 : FF 76 26 (.iconst (-1)) 1 0 0 0 0 := rfl
theorem f76_27 : FF 76 27 (.ireturn) 1 0 0 0 0 := rfl
theorem f76_28 : FF 76 28 (.aload_n 0) 1 0 0 0 0 := rfl
theorem f76_29 : FF 76 29 (.invokevirtual 125) 3 138 0 0 709 := rfl
theorem f76_32 : FF 76 32 (.iconst 0) 1 0 0 0 0 := rfl
theorem f76_33 : FF 76 33 (.istore_n 1) 1 0 0 0 0 := rfl
theorem f76_34 : FF 76 34 (.iload_n 1) 1 0 0 0 0 := rfl
theorem f76_35 : FF 76 35 (.aload_n 0) 1 0 0 0 0 := rfl
theorem f76_36 : FF 76 36 (.getfield 19) 3 11 1 1 618 := rfl
theorem f76_39 : FF 76 39 (.getfield 128) 3 7 0 0 80 := rfl
theorem f76_42 : FF 76 42 (.if_icmp .ge 23) 3 0 0 0 0 := rfl
theorem f76_45 : FF 76 45 (.iload_n 1) 1 0 0 0 0 := rfl
theorem f76_46 : FF 76 46 (.bipush 30) 2 0 0 0 0 := rfl
theorem f76_48 : FF 76 48 (.if_icmp .ge 17) 3 0 0 0 0 := rfl
theorem f76_51 : FF 76 51 (.aload_n 0) 1 0 0 0 0 := rfl
theorem f76_52 : FF 76 52 (.iload_n 1) 1 0 0 0 0 := rfl
theorem f76_53 : FF 76 53 (.invokevirtual 129) 3 143 1 0 726 := rfl
theorem f76_56 : FF 76 56 (.ifCond .eq 9) 3 0 0 0 0 := rfl
theorem f76_59 : FF 76 59 (.iinc 1 1) 3 0 0 0 0 := rfl
theorem f76_62 : FF 76 62 (.goto (-28)) 3 0 0 0 0 := rfl
theorem f76_65 : FF 76 65 (.iload_n 1) 1 0 0 0 0 := rfl
theorem f76_66 : FF 76 66 (.ireturn) 1 0 0 0 0 := rfl
theorem f77_0 : FF 77 0 (.aload_n 0) 1 0 0 0 0 := rfl
theorem f77_1 : FF 77 1 (.getfield 68) 3 11 11 0 628 := rfl
theorem f77_4 : FF 77 4 (.ireturn) 1 0 0 0 0 := rfl
theorem f78_0 : FF 78 0 (.aload_n 0) 1 0 0 0 0 := rfl
theorem f78_1 : FF 78 1 (.getfield 72) 3 11 12 0 629 := rfl
theorem f78_4 : FF 78 4 (.ireturn) 1 0 0 0 0 := rfl
theorem f79_0 : FF 79 0 (.aload_n 0) 1 0 0 0 0 := rfl
theorem f79_1 : FF 79 1 (.getfield 61) 3 11 8 1 625 := rfl
theorem f79_4 : FF 79 4 (.getfield 115) 3 6 0 1 331 := rfl
theorem f79_7 : FF 79 7 (.getfield 119) 3 5 2 0 317 := rfl
theorem f79_10 : FF 79 10 (.ireturn) 1 0 0 0 0 := rfl
theorem f80_0 : FF 80 0 (.aload_n 0) 1 0 0 0 0 := rfl
theorem f80_1 : FF 80 1 (.getfield 61) 3 11 8 1 625 := rfl
theorem f80_4 : FF 80 4 (.getfield 133) 3 6 1 1 335 := rfl
theorem f80_7 : FF 80 7 (.getfield 119) 3 5 2 0 317 := rfl
theorem f80_10 : FF 80 10 (.ireturn) 1 0 0 0 0 := rfl
theorem f81_0 : FF 81 0 (.aload_n 0) 1 0 0 0 0 := rfl
theorem f81_1 : FF 81 1 (.getfield 61) 3 11 8 1 625 := rfl
theorem f81_4 : FF 81 4 (.getfield 136) 3 6 2 1 338 := rfl
theorem f81_7 : FF 81 7 (.getfield 119) 3 5 2 0 317 := rfl
theorem f81_10 : FF 81 10 (.ireturn) 1 0 0 0 0 := rfl
theorem f82_0 : FF 82 0 (.aload_n 0) 1 0 0 0 0 := rfl
theorem f82_1 : FF 82 1 (.getfield 61) 3 11 8 1 625 := rfl
theorem f82_4 : FF 82 4 (.getfield 139) 3 6 5 0 346 := rfl
theorem f82_7 : FF 82 7 (.ireturn) 1 0 0 0 0 := rfl
theorem f83_0 : FF 83 0 (.aload_n 0) 1 0 0 0 0 := rfl
theorem f83_1 : FF 83 1 (.getfield 26) 3 11 2 1 619 := rfl
theorem f83_4 : FF 83 4 (.getfield 142) 3 9 1 1 185 := rfl
theorem f83_7 : FF 83 7 (.getfield 146) 3 4 0 0 131 := rfl
theorem f83_10 : FF 83 10 (.ireturn) 1 0 0 0 0 := rfl
theorem f84_0 : FF 84 0 (.iload_n 1) 1 0 0 0 0 := rfl
theorem f84_1 : FF 84 1 (.aload_n 0) 1 0 0 0 0 := rfl
theorem f84_2 : FF 84 2 (.getfield 61) 3 11 8 1 625 := rfl
theorem f84_5 : FF 84 5 (.getfield 115) 3 6 0 1 331 := rfl
theorem f84_8 : FF 84 8 (.getfield 119) 3 5 2 0 317 := rfl
theorem f84_11 : FF 84 11 (.invokestatic 149) 3 132 2 1 954 := rfl
theorem f84_14 : FF 84 14 (.aload_n 0) 1 0 0 0 0 := rfl
theorem f84_15 : FF 84 15 (.getfield 61) 3 11 8 1 625 := rfl
theorem f84_18 : FF 84 18 (.getfield 115) 3 6 0 1 331 := rfl
theorem f84_21 : FF 84 21 (.iload_n 1) 1 0 0 0 0 := rfl
theorem f84_22 : FF 84 22 (.iload_n 2) 1 0 0 0 0 := rfl
theorem f84_23 : FF 84 23 (.invokevirtual 153) 3 43 2 0 1025 := rfl
theorem f84_26 : FF 84 26 (.ireturn) 1 0 0 0 0 := rfl
theorem f85_0 : FF 85 0 (.iload_n 1) 1 0 0 0 0 := rfl
theorem f85_1 : FF 85 1 (.aload_n 0) 1 0 0 0 0 := rfl
theorem f85_2 : FF 85 2 (.getfield 61) 3 11 8 1 625 := rfl
theorem f85_5 : FF 85 5 (.getfield 133) 3 6 1 1 335 := rfl
theorem f85_8 : FF 85 8 (.getfield 119) 3 5 2 0 317 := rfl
theorem f85_11 : FF 85 11 (.invokestatic 149) 3 132 2 1 954 := rfl
theorem f85_14 : FF 85 14 (.aload_n 0) 1 0 0 0 0 := rfl
theorem f85_15 : FF 85 15 (.getfield 61) 3 11 8 1 625 := rfl
theorem f85_18 : FF 85 18 (.getfield 133) 3 6 1 1 335 := rfl
theorem f85_21 : FF 85 21 (.iload_n 1) 1 0 0 0 0 := rfl
theorem f85_22 : FF 85 22 (.iload_n 2) 1 0 0 0 0 := rfl
theorem f85_23 : FF 85 23 (.invokevirtual 153) 3 43 2 0 1025 := rfl
theorem f85_26 : FF 85 26 (.ireturn) 1 0 0 0 0 := rfl
theorem f86_0 : FF 86 0 (.iload_n 1) 1 0 0 0 0 := rfl
theorem f86_1 : FF 86 1 (.aload_n 0) 1 0 0 0 0 := rfl
theorem f86_2 : FF 86 2 (.getfield 61) 3 11 8 1 625 := rfl
theorem f86_5 : FF 86 5 (.getfield 136) 3 6 2 1 338 := rfl
theorem f86_8 : FF 86 8 (.getfield 119) 3 5 2 0 317 := rfl
theorem f86_11 : FF 86 11 (.invokestatic 149) 3 132 2 1 954 := rfl
theorem f86_14 : FF 86 14 (.aload_n 0) 1 0 0 0 0 := rfl
theorem f86_15 : FF 86 15 (.getfield 61) 3 11 8 1 625 := rfl
theorem f86_18 : FF 86 18 (.getfield 136) 3 6 2 1 338 := rfl
theorem f86_21 : FF 86 21 (.iload_n 1) 1 0 0 0 0 := rfl
theorem f86_22 : FF 86 22 (.iload_n 2) 1 0 0 0 0 := rfl
theorem f86_23 : FF 86 23 (.invokevirtual 153) 3 43 2 0 1025 := rfl
theorem f86_26 : FF 86 26 (.ireturn) 1 0 0 0 0 := rfl
theorem f87_0 : FF 87 0 (.aload_n 0) 1 0 0 0 0 := rfl
theorem f87_1 : FF 87 1 (.getfield 26) 3 11 2 1 619 := rfl
theorem f87_4 : FF 87 4 (.getfield 157) 3 9 0 1 183 := rfl
theorem f87_7 : FF 87 7 (.getfield 161) 3 0 0 0 112 := rfl
theorem f87_10 : FF 87 10 (.ireturn) 1 0 0 0 0 := rfl
theorem f88_0 : FF 88 0 (.iload_n 1) 1 0 0 0 0 := rfl
theorem f88_1 : FF 88 1 (.aload_n 0) 1 0 0 0 0 := rfl
theorem f88_2 : FF 88 2 (.getfield 61) 3 11 8 1 625 := rfl
theorem f88_5 : FF 88 5 (.getfield 136) 3 6 2 1 338 := rfl
theorem f88_8 : FF 88 8 (.getfield 119) 3 5 2 0 317 := rfl
theorem f88_11 : FF 88 11 (.invokestatic 149) 3 132 2 1 954 := rfl
theorem f88_14 : FF 88 14 (.aload_n 0) 1 0 0 0 0 := rfl
theorem f88_15 : FF 88 15 (.getfield 26) 3 11 2 1 619 := rfl
theorem f88_18 : FF 88 18 (.getfield 157) 3 9 0 1 183 := rfl
theorem f88_21 : FF 88 21 (.getfield 166) 3 0 1 1 117 := rfl
theorem f88_24 : FF 88 24 (.iload_n 1) 1 0 0 0 0 := rfl
theorem f88_25 : FF 88 25 (.iaload) 1 0 0 0 0 := rfl
theorem f88_26 : FF 88 26 (.ireturn) 1 0 0 0 0 := rfl
theorem f89_0 : FF 89 0 (.iload_n 1) 1 0 0 0 0 := rfl
theorem f89_1 : FF 89 1 (.aload_n 0) 1 0 0 0 0 := rfl
theorem f89_2 : FF 89 2 (.getfield 61) 3 11 8 1 625 := rfl
theorem f89_5 : FF 89 5 (.getfield 136) 3 6 2 1 338 := rfl
theorem f89_8 : FF 89 8 (.getfield 119) 3 5 2 0 317 := rfl
theorem f89_11 : FF 89 11 (.invokestatic 149) 3 132 2 1 954 := rfl
theorem f89_14 : FF 89 14 (.aload_n 0) 1 0 0 0 0 := rfl
theorem f89_15 : FF 89 15 (.getfield 61) 3 11 8 1 625 := rfl
theorem f89_18 : FF 89 18 (.getfield 169) 3 6 3 1 341 := rfl
theorem f89_21 : FF 89 21 (.getfield 166) 3 0 1 1 117 := rfl
theorem f89_24 : FF 89 24 (.iload_n 1) 1 0 0 0 0 := rfl
theorem f89_25 : FF 89 25 (.iaload) 1 0 0 0 0 := rfl
theorem f89_26 : FF 89 26 (.ireturn) 1 0 0 0 0 := rfl
theorem f90_0 : FF 90 0 (.iload_n 1) 1 0 0 0 0 := rfl
theorem f90_1 : FF 90 1 (.aload_n 0) 1 0 0 0 0 := rfl
theorem f90_2 : FF 90 2 (.getfield 61) 3 11 8 1 625 := rfl
theorem f90_5 : FF 90 5 (.getfield 139) 3 6 5 0 346 := rfl
theorem f90_8 : FF 90 8 (.invokestatic 149) 3 132 2 1 954 := rfl
theorem f90_11 : FF 90 11 (.aload_n 0) 1 0 0 0 0 := rfl
theorem f90_12 : FF 90 12 (.getfield 61) 3 11 8 1 625 := rfl
theorem f90_15 : FF 90 15 (.getfield 172) 3 6 6 1 349 := rfl
theorem f90_18 : FF 90 18 (.iload_n 1) 1 0 0 0 0 := rfl
theorem f90_19 : FF 90 19 (.iaload) 1 0 0 0 0 := rfl
theorem f90_20 : FF 90 20 (.ireturn) 1 0 0 0 0 := rfl
theorem f91_0 : FF 91 0 (.iload_n 1) 1 0 0 0 0 := rfl
theorem f91_1 : FF 91 1 (.aload_n 0) 1 0 0 0 0 := rfl
theorem f91_2 : FF 91 2 (.getfield 61) 3 11 8 1 625 := rfl
theorem f91_5 : FF 91 5 (.getfield 139) 3 6 5 0 346 := rfl
theorem f91_8 : FF 91 8 (.invokestatic 149) 3 132 2 1 954 := rfl
theorem f91_11 : FF 91 11 (.aload_n 0) 1 0 0 0 0 := rfl
theorem f91_12 : FF 91 12 (.getfield 61) 3 11 8 1 625 := rfl
theorem f91_15 : FF 91 15 (.getfield 175) 3 6 7 1 352 := rfl
theorem f91_18 : FF 91 18 (.iload_n 1) 1 0 0 0 0 := rfl
theorem f91_19 : FF 91 19 (.iaload) 1 0 0 0 0 := rfl
theorem f91_20 : FF 91 20 (.ireturn) 1 0 0 0 0 := rfl
theorem f92_0 : FF 92 0 (.iload_n 1) 1 0 0 0 0 := rfl
theorem f92_1 : FF 92 1 (.aload_n 0) 1 0 0 0 0 := rfl
theorem f92_2 : FF 92 2 (.getfield 61) 3 11 8 1 625 := rfl
theorem f92_5 : FF 92 5 (.getfield 139) 3 6 5 0 346 := rfl
theorem f92_8 : FF 92 8 (.invokestatic 149) 3 132 2 1 954 := rfl
theorem f92_11 : FF 92 11 (.aload_n 0) 1 0 0 0 0 := rfl
theorem f92_12 : FF 92 12 (.getfield 61) 3 11 8 1 625 := rfl
theorem f92_15 : FF 92 15 (.getfield 178) 3 6 8 1 355 := rfl
theorem f92_18 : FF 92 18 (.iload_n 1) 1 0 0 0 0 := rfl
theorem f92_19 : FF 92 19 (.iaload) 1 0 0 0 0 := rfl
theorem f92_20 : FF 92 20 (.ireturn) 1 0 0 0 0 := rfl
theorem f93_0 : FF 93 0 (.iload_n 1) 1 0 0 0 0 := rfl
theorem f93_1 : FF 93 1 (.aload_n 0) 1 0 0 0 0 := rfl
theorem f93_2 : FF 93 2 (.getfield 61) 3 11 8 1 625 := rfl
theorem f93_5 : FF 93 5 (.getfield 139) 3 6 5 0 346 := rfl
theorem f93_8 : FF 93 8 (.invokestatic 149) 3 132 2 1 954 := rfl
theorem f93_11 : FF 93 11 (.aload_n 0) 1 0 0 0 0 := rfl
theorem f93_12 : FF 93 12 (.getfield 61) 3 11 8 1 625 := rfl
theorem f93_15 : FF 93 15 (.getfield 181) 3 6 10 1 358 := rfl
theorem f93_18 : FF 93 18 (.iload_n 1) 1 0 0 0 0 := rfl
theorem f93_19 : FF 93 19 (.iaload) 1 0 0 0 0 := rfl
theorem f93_20 : FF 93 20 (.iconst (-1)) 1 0 0 0 0 := rfl
theorem f93_21 : FF 93 21 (.if_icmp .eq 7) 3 0 0 0 0 := rfl
theorem f93_24 : FF 93 24 (.iconst 1) 1 0 0 0 0 := rfl
theorem f93_25 : FF 93 25 (.goto 4) 3 0 0 0 0 := rfl
theorem f93_28 : FF 93 28 (.iconst 0) 1 0 0 0 0 := rfl
theorem f93_29 : FF 93 29 (.ireturn) 1 0 0 0 0 := rfl
theorem f94_0 : FF 94 0 (.iload_n 1) 1 0 0 0 0 := rfl
theorem f94_1 : FF 94 1 (.aload_n 0) 1 0 0 0 0 := rfl
theorem f94_2 : FF 94 2 (.getfield 61) 3 11 8 1 625 := rfl
theorem f94_5 : FF 94 5 (.getfield 139) 3 6 5 0 346 := rfl
theorem f94_8 : FF 94 8 (.invokestatic 149) 3 132 2 1 954 := rfl
theorem f94_11 : FF 94 11 (.aload_n 0) 1 0 0 0 0 := rfl
theorem f94_12 : FF 94 12 (.getfield 61) 3 11 8 1 625 := rfl
theorem f94_15 : FF 94 15 (.iload_n 1) 1 0 0 0 0 := rfl
theorem f94_16 : FF 94 16 (.aload_n 0) 1 0 0 0 0 := rfl
theorem f94_17 : FF 94 17 (.getfield 26) 3 11 2 1 619 := rfl
theorem f94_20 : FF 94 20 (.getfield 157) 3 9 0 1 183 := rfl
theorem f94_23 : FF 94 23 (.invokevirtual 184) 3 48 2 0 1092 := rfl
theorem f94_26 : FF 94 26 (.ireturn) 1 0 0 0 0 := rfl
theorem f95_0 : FF 95 0 (.iload_n 1) 1 0 0 0 0 := rfl
theorem f95_1 : FF 95 1 (.aload_n 0) 1 0 0 0 0 := rfl
theorem f95_2 : FF 95 2 (.getfield 26) 3 11 2 1 619 := rfl
theorem f95_5 : FF 95 5 (.getfield 142) 3 9 1 1 185 := rfl
theorem f95_8 : FF 95 8 (.getfield 146) 3 4 0 0 131 := rfl
theorem f95_11 : FF 95 11 (.invokestatic 149) 3 132 2 1 954 := rfl
theorem f95_14 : FF 95 14 (.aload_n 0) 1 0 0 0 0 := rfl
theorem f95_15 : FF 95 15 (.getfield 26) 3 11 2 1 619 := rfl
theorem f95_18 : FF 95 18 (.getfield 142) 3 9 1 1 185 := rfl
theorem f95_21 : FF 95 21 (.getfield 188) 3 4 1 1 133 := rfl
theorem f95_24 : FF 95 24 (.iload_n 1) 1 0 0 0 0 := rfl
theorem f95_25 : FF 95 25 (.iaload) 1 0 0 0 0 := rfl
theorem f95_26 : FF 95 26 (.ireturn) 1 0 0 0 0 := rfl
theorem f96_0 : FF 96 0 (.iload_n 1) 1 0 0 0 0 := rfl
theorem f96_1 : FF 96 1 (.aload_n 0) 1 0 0 0 0 := rfl
theorem f96_2 : FF 96 2 (.getfield 26) 3 11 2 1 619 := rfl
theorem f96_5 : FF 96 5 (.getfield 142) 3 9 1 1 185 := rfl
theorem f96_8 : FF 96 8 (.getfield 146) 3 4 0 0 131 := rfl
theorem f96_11 : FF 96 11 (.invokestatic 149) 3 132 2 1 954 := rfl
theorem f96_14 : FF 96 14 (.aload_n 0) 1 0 0 0 0 := rfl
theorem f96_15 : FF 96 15 (.getfield 26) 3 11 2 1 619 := rfl
theorem f96_18 : FF 96 18 (.getfield 142) 3 9 1 1 185 := rfl
theorem f96_21 : FF 96 21 (.iload_n 1) 1 0 0 0 0 := rfl
theorem f96_22 : FF 96 22 (.aload_n 0) 1 0 0 0 0 := rfl
theorem f96_23 : FF 96 23 (.getfield 26) 3 11 2 1 619 := rfl
theorem f96_26 : FF 96 26 (.getfield 157) 3 9 0 1 183 := rfl
theorem f96_29 : FF 96 29 (.invokevirtual 190) 3 39 2 0 1107 := rfl
theorem f96_32 : FF 96 32 (.ireturn) 1 0 0 0 0 := rfl
theorem f97_0 : FF 97 0 (.iload_n 1) 1 0 0 0 0 := rfl
theorem f97_1 : FF 97 1 (.aload_n 0) 1 0 0 0 0 := rfl
theorem f97_2 : FF 97 2 (.getfield 61) 3 11 8 1 625 := rfl
theorem f97_5 : FF 97 5 (.getfield 133) 3 6 1 1 335 := rfl
theorem f97_8 : FF 97 8 (.getfield 119) 3 5 2 0 317 := rfl
theorem f97_11 : FF 97 11 (.invokestatic 149) 3 132 2 1 954 := rfl
theorem f97_14 : FF 97 14 (.aload_n 0) 1 0 0 0 0 := rfl
theorem f97_15 : FF 97 15 (.getfield 43) 3 11 5 1 622 := rfl
theorem f97_18 : FF 97 18 (.aload_n 0) 1 0 0 0 0 := rfl
theorem f97_19 : FF 97 19 (.getfield 61) 3 11 8 1 625 := rfl
theorem f97_22 : FF 97 22 (.aload_n 0) 1 0 0 0 0 := rfl
theorem f97_23 : FF 97 23 (.getfield 26) 3 11 2 1 619 := rfl
theorem f97_26 : FF 97 26 (.getfield 142) 3 9 1 1 185 := rfl
theorem f97_29 : FF 97 29 (.aload_n 0) 1 0 0 0 0 := rfl
theorem f97_30 : FF 97 30 (.getfield 26) 3 11 2 1 619 := rfl
theorem f97_33 : FF 97 33 (.getfield 157) 3 9 0 1 183 := rfl
theorem f97_36 : FF 97 36 (.iload_n 1) 1 0 0 0 0 := rfl
theorem f97_37 : FF 97 37 (.invokevirtual 193) 3 69 4 0 734 := rfl
theorem f97_40 : FF 97 40 (.aload_n 0) 1 0 0 0 0 := rfl
theorem f97_41 : FF 97 41 (.getfield 43) 3 11 5 1 622 := rfl
theorem f97_44 : FF 97 44 (.getfield 197) 3 10 0 0 225 := rfl
theorem f97_47 : FF 97 47 (.ireturn) 1 0 0 0 0 := rfl
theorem f98_0 : FF 98 0 (.iload_n 1) 1 0 0 0 0 := rfl
theorem f98_1 : FF 98 1 (.aload_n 0) 1 0 0 0 0 := rfl
theorem f98_2 : FF 98 2 (.getfield 61) 3 11 8 1 625 := rfl
theorem f98_5 : FF 98 5 (.getfield 133) 3 6 1 1 335 := rfl
theorem f98_8 : FF 98 8 (.getfield 119) 3 5 2 0 317 := rfl
theorem f98_11 : FF 98 11 (.invokestatic 149) 3 132 2 1 954 := rfl
theorem f98_14 : FF 98 14 (.aload_n 0) 1 0 0 0 0 := rfl
theorem f98_15 : FF 98 15 (.getfield 43) 3 11 5 1 622 := rfl
theorem f98_18 : FF 98 18 (.aload_n 0) 1 0 0 0 0 := rfl
theorem f98_19 : FF 98 19 (.getfield 61) 3 11 8 1 625 := rfl
theorem f98_22 : FF 98 22 (.aload_n 0) 1 0 0 0 0 := rfl
theorem f98_23 : FF 98 23 (.getfield 26) 3 11 2 1 619 := rfl
theorem f98_26 : FF 98 26 (.getfield 142) 3 9 1 1 185 := rfl
theorem f98_29 : FF 98 29 (.aload_n 0) 1 0 0 0 0 := rfl
theorem f98_30 : FF 98 30 (.getfield 26) 3 11 2 1 619 := rfl
theorem f98_33 : FF 98 33 (.getfield 157) 3 9 0 1 183 := rfl
theorem f98_36 : FF 98 36 (.iload_n 1) 1 0 0 0 0 := rfl
theorem f98_37 : FF 98 37 (.invokevirtual 193) 3 69 4 0 734 := rfl
theorem f98_40 : FF 98 40 (.aload_n 0) 1 0 0 0 0 := rfl
theorem f98_41 : FF 98 41 (.getfield 43) 3 11 5 1 622 := rfl
theorem f98_44 : FF 98 44 (.getfield 200) 3 10 1 0 228 := rfl
theorem f98_47 : FF 98 47 (.ireturn) 1 0 0 0 0 := rfl
theorem f99_0 : FF 99 0 (.iload_n 1) 1 0 0 0 0 := rfl
theorem f99_1 : FF 99 1 (.aload_n 0) 1 0 0 0 0 := rfl
theorem f99_2 : FF 99 2 (.getfield 61) 3 11 8 1 625 := rfl
theorem f99_5 : FF 99 5 (.getfield 133) 3 6 1 1 335 := rfl
theorem f99_8 : FF 99 8 (.getfield 119) 3 5 2 0 317 := rfl
theorem f99_11 : FF 99 11 (.invokestatic 149) 3 132 2 1 954 := rfl
theorem f99_14 : FF 99 14 (.aload_n 0) 1 0 0 0 0 := rfl
theorem f99_15 : FF 99 15 (.getfield 43) 3 11 5 1 622 := rfl
theorem f99_18 : FF 99 18 (.aload_n 0) 1 0 0 0 0 := rfl
theorem f99_19 : FF 99 19 (.getfield 61) 3 11 8 1 625 := rfl
theorem f99_22 : FF 99 22 (.aload_n 0) 1 0 0 0 0 := rfl
theorem f99_23 : FF 99 23 (.getfield 26) 3 11 2 1 619 := rfl
theorem f99_26 : FF 99 26 (.getfield 142) 3 9 1 1 185 := rfl
theorem f99_29 : FF 99 29 (.aload_n 0) 1 0 0 0 0 := rfl
theorem f99_30 : FF 99 30 (.getfield 26) 3 11 2 1 619 := rfl
theorem f99_33 : FF 99 33 (.getfield 157) 3 9 0 1 183 := rfl
theorem f99_36 : FF 99 36 (.iload_n 1) 1 0 0 0 0 := rfl
theorem f99_37 : FF 99 37 (.invokevirtual 193) 3 69 4 0 734 := rfl
theorem f99_40 : FF 99 40 (.aload_n 0) 1 0 0 0 0 := rfl
theorem f99_41 : FF 99 41 (.getfield 43) 3 11 5 1 622 := rfl
theorem f99_44 : FF 99 44 (.getfield 203) 3 10 2 0 230 := rfl
theorem f99_47 : FF 99 47 (.ireturn) 1 0 0 0 0 := rfl
theorem f100_0 : FF 100 0 (.iconst 0) 1 0 0 0 0 := rfl
theorem f100_1 : FF 100 1 (.istore_n 1) 1 0 0 0 0 := rfl
theorem f100_2 : FF 100 2 (.iload_n 1) 1 0 0 0 0 := rfl
theorem f100_3 : FF 100 3 (.aload_n 0) 1 0 0 0 0 := rfl
theorem f100_4 : FF 100 4 (.getfield 61) 3 11 8 1 625 := rfl
theorem f100_7 : FF 100 7 (.getfield 133) 3 6 1 1 335 := rfl
theorem f100_10 : FF 100 10 (.getfield 119) 3 5 2 0 317 := rfl
theorem f100_13 : FF 100 13 (.if_icmp .ge 47) 3 0 0 0 0 := rfl
theorem f100_16 : FF 100 16 (.aload_n 0) 1 0 0 0 0 := rfl
theorem f100_17 : FF 100 17 (.getfield 43) 3 11 5 1 622 := rfl
theorem f100_20 : FF 100 20 (.aload_n 0) 1 0 0 0 0 := rfl
theorem f100_21 : FF 100 21 (.getfield 61) 3 11 8 1 625 := rfl
theorem f100_24 : FF 100 24 (.aload_n 0) 1 0 0 0 0 := rfl
theorem f100_25 : FF 100 25 (.getfield 26) 3 11 2 1 619 := rfl
theorem f100_28 : FF 100 28 (.getfield 142) 3 9 1 1 185 := rfl
theorem f100_31 : FF 100 31 (.aload_n 0) 1 0 0 0 0 := rfl
theorem f100_32 : FF 100 32 (.getfield 26) 3 11 2 1 619 := rfl
theorem f100_35 : FF 100 35 (.getfield 157) 3 9 0 1 183 := rfl
theorem f100_38 : FF 100 38 (.iload_n 1) 1 0 0 0 0 := rfl
theorem f100_39 : FF 100 39 (.invokevirtual 193) 3 69 4 0 734 := rfl
theorem f100_42 : FF 100 42 (.aload_n 0) 1 0 0 0 0 := rfl
theorem f100_43 : FF 100 43 (.getfield 43) 3 11 5 1 622 := rfl
theorem f100_46 : FF 100 46 (.getfield 197) 3 10 0 0 225 := rfl
theorem f100_49 : FF 100 49 (.ifCond .ne 5) 3 0 0 0 0 := rfl
theorem f100_52 : FF 100 52 (.iconst 0) 1 0 0 0 0 := rfl
theorem f100_53 : FF 100 53 (.ireturn) 1 0 0 0 0 := rfl
theorem f100_54 : FF 100 54 (.iinc 1 1) 3 0 0 0 0 := rfl
theorem f100_57 : FF 100 57 (.goto (-55)) 3 0 0 0 0 := rfl
theorem f100_60 : FF 100 60 (.iconst 1) 1 0 0 0 0 := rfl
theorem f100_61 : FF 100 61 (.ireturn) 1 0 0 0 0 := rfl
theorem f101_0 : FF 101 0 (.iload_n 1) 1 0 0 0 0 := rfl
theorem f101_1 : FF 101 1 (.aload_n 0) 1 0 0 0 0 := rfl
theorem f101_2 : FF 101 2 (.getfield 61) 3 11 8 1 625 := rfl
theorem f101_5 : FF 101 5 (.getfield 139) 3 6 5 0 346 := rfl
theorem f101_8 : FF 101 8 (.invokestatic 149) 3 132 2 1 954 := rfl
theorem f101_11 : FF 101 11 (.aload_n 0) 1 0 0 0 0 := rfl
theorem f101_12 : FF 101 12 (.getfield 26) 3 11 2 1 619 := rfl
theorem f101_15 : FF 101 15 (.getfield 206) 3 9 2 1 187 := rfl
theorem f101_18 : FF 101 18 (.getfield 210) 3 1 0 1 155 := rfl
theorem f101_21 : FF 101 21 (.iload_n 1) 1 0 0 0 0 := rfl
theorem f101_22 : FF 101 22 (.iaload) 1 0 0 0 0 := rfl
theorem f101_23 : FF 101 23 (.ireturn) 1 0 0 0 0 := rfl
theorem f102_0 : FF 102 0 (.iload_n 1) 1 0 0 0 0 := rfl
theorem f102_1 : FF 102 1 (.aload_n 0) 1 0 0 0 0 := rfl
theorem f102_2 : FF 102 2 (.getfield 61) 3 11 8 1 625 := rfl
theorem f102_5 : FF 102 5 (.getfield 115) 3 6 0 1 331 := rfl
theorem f102_8 : FF 102 8 (.getfield 119) 3 5 2 0 317 := rfl
theorem f102_11 : FF 102 11 (.invokestatic 149) 3 132 2 1 954 := rfl
theorem f102_14 : FF 102 14 (.aload_n 0) 1 0 0 0 0 := rfl
theorem f102_15 : FF 102 15 (.getfield 26) 3 11 2 1 619 := rfl
theorem f102_18 : FF 102 18 (.getfield 206) 3 9 2 1 187 := rfl
theorem f102_21 : FF 102 21 (.getfield 215) 3 1 1 1 157 := rfl
theorem f102_24 : FF 102 24 (.iload_n 1) 1 0 0 0 0 := rfl
theorem f102_25 : FF 102 25 (.iaload) 1 0 0 0 0 := rfl
theorem f102_26 : FF 102 26 (.ireturn) 1 0 0 0 0 := rfl
theorem f103_0 : FF 103 0 (.aload_n 0) 1 0 0 0 0 := rfl
theorem f103_1 : FF 103 1 (.getfield 26) 3 11 2 1 619 := rfl
theorem f103_4 : FF 103 4 (.getfield 206) 3 9 2 1 187 := rfl
theorem f103_7 : FF 103 7 (.getfield 218) 3 1 3 0 161 := rfl
theorem f103_10 : FF 103 10 (.ireturn) 1 0 0 0 0 := rfl
theorem f104_0 : FF 104 0 (.aload_n 0) 1 0 0 0 0 := rfl
theorem f104_1 : FF 104 1 (.getfield 26) 3 11 2 1 619 := rfl
theorem f104_4 : FF 104 4 (.getfield 206) 3 9 2 1 187 := rfl
theorem f104_7 : FF 104 7 (.getfield 221) 3 1 4 0 163 := rfl
theorem f104_10 : FF 104 10 (.ireturn) 1 0 0 0 0 := rfl
theorem f105_0 : FF 105 0 (.iload_n 1) 1 0 0 0 0 := rfl
theorem f105_1 : FF 105 1 (.ifCond .le 12) 3 0 0 0 0 := rfl
theorem f105_4 : FF 105 4 (.iload_n 1) 1 0 0 0 0 := rfl
theorem f105_5 : FF 105 5 (.iconst 5) 1 0 0 0 0 := rfl
theorem f105_6 : FF 105 6 (.if_icmp .ge 7) 3 0 0 0 0 := rfl
theorem f105_9 : FF 105 9 (.iconst 1) 1 0 0 0 0 := rfl
theorem f105_10 : FF 105 10 (.goto 4) 3 0 0 0 0 := rfl
theorem f105_13 : FF 105 13 (.iconst 0) 1 0 0 0 0 := rfl
theorem f105_14 : FF 105 14 (.invokestatic 224) 3 133 1 1 1151 := rfl
theorem f105_17 : FF 105 17 (.aload_n 0) 1 0 0 0 0 := rfl
theorem f105_18 : FF 105 18 (.getfield 26) 3 11 2 1 619 := rfl
theorem f105_21 : FF 105 21 (.getfield 206) 3 9 2 1 187 := rfl
theorem f105_24 : FF 105 24 (.getfield 228) 3 1 2 1 159 := rfl
theorem f105_27 : FF 105 27 (.iload_n 1) 1 0 0 0 0 := rfl
theorem f105_28 : FF 105 28 (.iaload) 1 0 0 0 0 := rfl
theorem f105_29 : FF 105 29 (.ireturn) 1 0 0 0 0 := rfl
theorem f106_0 : FF 106 0 (.aload_n 0) 1 0 0 0 0 := rfl
theorem f106_1 : FF 106 1 (.getfield 61) 3 11 8 1 625 := rfl
theorem f106_4 : FF 106 4 (.getfield 115) 3 6 0 1 331 := rfl
theorem f106_7 : FF 106 7 (.getfield 119) 3 5 2 0 317 := rfl
theorem f106_10 : FF 106 10 (.istore_n 1) 1 0 0 0 0 := rfl
theorem f106_11 : FF 106 11 (.iload_n 1) 1 0 0 0 0 := rfl
theorem f106_12 : FF 106 12 (.ifCond .ne 7) 3 0 0 0 0 := rfl
theorem f106_15 : FF 106 15 (.fconst 1) 1 0 0 0 0 := rfl
theorem f106_16 : FF 106 16 (.goto 18) 3 0 0 0 0 := rfl
theorem f106_19 : FF 106 19 (.aload_n 0) 1 0 0 0 0 := rfl
theorem f106_20 : FF 106 20 (.getfield 26) 3 11 2 1 619 := rfl
theorem f106_23 : FF 106 23 (.getfield 206) 3 9 2 1 187 := rfl
theorem f106_26 : FF 106 26 (.iload_n 1) 1 0 0 0 0 := rfl
theorem f106_27 : FF 106 27 (.invokevirtual 231) 3 9 1 0 820 := rfl
theorem f106_30 : FF 106 30 (.i2f) 1 0 0 0 0 := rfl
theorem f106_31 : FF 106 31 (.iload_n 1) 1 0 0 0 0 := rfl
theorem f106_32 : FF 106 32 (.i2f) 1 0 0 0 0 := rfl
theorem f106_33 : FF 106 33 (.fdiv) 1 0 0 0 0 := rfl
theorem f106_34 : FF 106 34 (.freturn) 1 0 0 0 0 := rfl
theorem f107_0 : FF 107 0 (.aload_n 0) 1 0 0 0 0 := rfl
theorem f107_1 : FF 107 1 (.getfield 61) 3 11 8 1 625 := rfl
theorem f107_4 : FF 107 4 (.getfield 139) 3 6 5 0 346 := rfl
theorem f107_7 : FF 107 7 (.istore_n 1) 1 0 0 0 0 := rfl
theorem f107_8 : FF 107 8 (.iload_n 1) 1 0 0 0 0 := rfl
theorem f107_9 : FF 107 9 (.ifCond .ne 7) 3 0 0 0 0 := rfl
theorem f107_12 : FF 107 12 (.fconst 1) 1 0 0 0 0 := rfl
theorem f107_13 : FF 107 13 (.goto 18) 3 0 0 0 0 := rfl
theorem f107_16 : FF 107 16 (.aload_n 0) 1 0 0 0 0 := rfl
theorem f107_17 : FF 107 17 (.getfield 26) 3 11 2 1 619 := rfl
theorem f107_20 : FF 107 20 (.getfield 206) 3 9 2 1 187 := rfl
theorem f107_23 : FF 107 23 (.iload_n 1) 1 0 0 0 0 := rfl
theorem f107_24 : FF 107 24 (.invokevirtual 235) 3 10 1 0 828 := rfl
theorem f107_27 : FF 107 27 (.i2f) 1 0 0 0 0 := rfl
theorem f107_28 : FF 107 28 (.iload_n 1) 1 0 0 0 0 := rfl
theorem f107_29 : FF 107 29 (.i2f) 1 0 0 0 0 := rfl
theorem f107_30 : FF 107 30 (.fdiv) 1 0 0 0 0 := rfl
theorem f107_31 : FF 107 31 (.freturn) 1 0 0 0 0 := rfl
theorem f108_0 : FF 108 0 (.iconst 0) 1 0 0 0 0 := rfl
theorem f108_1 : FF 108 1 (.istore_n 1) 1 0 0 0 0 := rfl
theorem f108_2 : FF 108 2 (.iload_n 1) 1 0 0 0 0 := rfl
theorem f108_3 : FF 108 3 (.aload_n 0) 1 0 0 0 0 := rfl
theorem f108_4 : FF 108 4 (.getfield 61) 3 11 8 1 625 := rfl
theorem f108_7 : FF 108 7 (.getfield 139) 3 6 5 0 346 := rfl
theorem f108_10 : FF 108 10 (.if_icmp .ge 26) 3 0 0 0 0 := rfl
theorem f108_13 : FF 108 13 (.aload_n 0) 1 0 0 0 0 := rfl
theorem f108_14 : FF 108 14 (.getfield 26) 3 11 2 1 619 := rfl
theorem f108_17 : FF 108 17 (.getfield 206) 3 9 2 1 187 := rfl
theorem f108_20 : FF 108 20 (.getfield 210) 3 1 0 1 155 := rfl
theorem f108_23 : FF 108 23 (.iload_n 1) 1 0 0 0 0 := rfl
theorem f108_24 : FF 108 24 (.iaload) 1 0 0 0 0 := rfl
theorem f108_25 : FF 108 25 (.ifCond .ne 5) 3 0 0 0 0 := rfl
theorem f108_28 : FF 108 28 (.iload_n 1) 1 0 0 0 0 := rfl
theorem f108_29 : FF 108 29 (.ireturn) 1 0 0 0 0 := rfl
theorem f108_30 : FF 108 30 (.iinc 1 1) 3 0 0 0 0 := rfl
theorem f108_33 : FF 108 33 (.goto (-31)) 3 0 0 0 0 := rfl
theorem f108_36 : FF 108 36 (.iconst (-1)) 1 0 0 0 0 := rfl
theorem f108_37 : FF 108 37 (.ireturn) 1 0 0 0 0 := rfl
theorem f109_0 : FF 109 0 (.iconst 0) 1 0 0 0 0 := rfl
theorem f109_1 : FF 109 1 (.istore_n 1) 1 0 0 0 0 := rfl
theorem f109_2 : FF 109 2 (.iconst 1) 1 0 0 0 0 := rfl
theorem f109_3 : FF 109 3 (.istore_n 2) 1 0 0 0 0 := rfl
theorem f109_4 : FF 109 4 (.iload_n 2) 1 0 0 0 0 := rfl
theorem f109_5 : FF 109 5 (.aload_n 0) 1 0 0 0 0 := rfl
theorem f109_6 : FF 109 6 (.getfield 61) 3 11 8 1 625 := rfl
theorem f109_9 : FF 109 9 (.getfield 115) 3 6 0 1 331 := rfl
theorem f109_12 : FF 109 12 (.getfield 119) 3 5 2 0 317 := rfl
theorem f109_15 : FF 109 15 (.if_icmp .ge 38) 3 0 0 0 0 := rfl
theorem f109_18 : FF 109 18 (.aload_n 0) 1 0 0 0 0 := rfl
theorem f109_19 : FF 109 19 (.getfield 26) 3 11 2 1 619 := rfl
theorem f109_22 : FF 109 22 (.getfield 206) 3 9 2 1 187 := rfl
theorem f109_25 : FF 109 25 (.getfield 215) 3 1 1 1 157 := rfl
theorem f109_28 : FF 109 28 (.iload_n 2) 1 0 0 0 0 := rfl
theorem f109_29 : FF 109 29 (.iaload) 1 0 0 0 0 := rfl
theorem f109_30 : FF 109 30 (.aload_n 0) 1 0 0 0 0 := rfl
theorem f109_31 : FF 109 31 (.getfield 26) 3 11 2 1 619 := rfl
theorem f109_34 : FF 109 34 (.getfield 206) 3 9 2 1 187 := rfl
theorem f109_37 : FF 109 37 (.getfield 215) 3 1 1 1 157 := rfl
theorem f109_40 : FF 109 40 (.iload_n 1) 1 0 0 0 0 := rfl
theorem f109_41 : FF 109 41 (.iaload) 1 0 0 0 0 := rfl
theorem f109_42 : FF 109 42 (.if_icmp .le 5) 3 0 0 0 0 := rfl
theorem f109_45 : FF 109 45 (.iload_n 2) 1 0 0 0 0 := rfl
theorem f109_46 : FF 109 46 (.istore_n 1) 1 0 0 0 0 := rfl
theorem f109_47 : FF 109 47 (.iinc 2 1) 3 0 0 0 0 := rfl
theorem f109_50 : FF 109 50 (.goto (-46)) 3 0 0 0 0 := rfl
theorem f109_53 : FF 109 53 (.iload_n 1) 1 0 0 0 0 := rfl
theorem f109_54 : FF 109 54 (.ireturn) 1 0 0 0 0 := rfl
theorem f110_0 : FF 110 0 (.aload_n 0) 1 0 0 0 0 := rfl
theorem f110_1 : FF 110 1 (.getfield 26) 3 11 2 1 619 := rfl
theorem f110_4 : FF 110 4 (.getfield 206) 3 9 2 1 187 := rfl
theorem f110_7 : FF 110 7 (.getfield 238) 3 1 6 0 166 := rfl
theorem f110_10 : FF 110 10 (.ireturn) 1 0 0 0 0 := rfl
theorem f111_0 : FF 111 0 (.aload_n 0) 1 0 0 0 0 := rfl
theorem f111_1 : FF 111 1 (.getfield 26) 3 11 2 1 619 := rfl
theorem f111_4 : FF 111 4 (.getfield 206) 3 9 2 1 187 := rfl
theorem f111_7 : FF 111 7 (.iload_n 1) 1 0 0 0 0 := rfl
theorem f111_8 : FF 111 8 (.invokevirtual 241) 3 8 1 0 848 := rfl
theorem f111_11 : FF 111 11 (.istore_n 2) 1 0 0 0 0 := rfl
theorem f111_12 : FF 111 12 (.iload_n 2) 1 0 0 0 0 := rfl
theorem f111_13 : FF 111 13 (.iconst (-1)) 1 0 0 0 0 := rfl
theorem f111_14 : FF 111 14 (.if_icmp .ne 7) 3 0 0 0 0 := rfl
theorem f111_17 : FF 111 17 (.iconst (-1)) 1 0 0 0 0 := rfl
theorem f111_18 : FF 111 18 (.goto 12) 3 0 0 0 0 := rfl
theorem f111_21 : FF 111 21 (.aload_n 0) 1 0 0 0 0 := rfl
theorem f111_22 : FF 111 22 (.getfield 61) 3 11 8 1 625 := rfl
theorem f111_25 : FF 111 25 (.getfield 175) 3 6 7 1 352 := rfl
theorem f111_28 : FF 111 28 (.iload_n 2) 1 0 0 0 0 := rfl
theorem f111_29 : FF 111 29 (.iaload) 1 0 0 0 0 := rfl
theorem f111_30 : FF 111 30 (.ireturn) 1 0 0 0 0 := rfl
theorem f112_0 : FF 112 0 (.aload_n 0) 1 0 0 0 0 := rfl
theorem f112_1 : FF 112 1 (.getfield 26) 3 11 2 1 619 := rfl
theorem f112_4 : FF 112 4 (.getfield 206) 3 9 2 1 187 := rfl
theorem f112_7 : FF 112 7 (.iload_n 1) 1 0 0 0 0 := rfl
theorem f112_8 : FF 112 8 (.invokevirtual 241) 3 8 1 0 848 := rfl
theorem f112_11 : FF 112 11 (.ireturn) 1 0 0 0 0 := rfl
theorem f113_0 : FF 113 0 (.aload_n 0) 1 0 0 0 0 := rfl
theorem f113_1 : FF 113 1 (.invokevirtual 244) 3 139 0 0 860 := rfl
theorem f113_4 : FF 113 4 (.aload_n 0) 1 0 0 0 0 := rfl
theorem f113_5 : FF 113 5 (.getfield 50) 3 11 6 1 623 := rfl
theorem f113_8 : FF 113 8 (.getfield 247) 3 8 1 0 255 := rfl
theorem f113_11 : FF 113 11 (.ireturn) 1 0 0 0 0 := rfl
theorem f114_0 : FF 114 0 (.iload_n 1) 1 0 0 0 0 := rfl
theorem f114_1 : FF 114 1 (.aload_n 0) 1 0 0 0 0 := rfl
theorem f114_2 : FF 114 2 (.getfield 61) 3 11 8 1 625 := rfl
theorem f114_5 : FF 114 5 (.getfield 115) 3 6 0 1 331 := rfl
theorem f114_8 : FF 114 8 (.getfield 119) 3 5 2 0 317 := rfl
theorem f114_11 : FF 114 11 (.invokestatic 149) 3 132 2 1 954 := rfl
theorem f114_14 : FF 114 14 (.aload_n 0) 1 0 0 0 0 := rfl
theorem f114_15 : FF 114 15 (.invokevirtual 244) 3 139 0 0 860 := rfl
theorem f114_18 : FF 114 18 (.aload_n 0) 1 0 0 0 0 := rfl
theorem f114_19 : FF 114 19 (.getfield 50) 3 11 6 1 623 := rfl
theorem f114_22 : FF 114 22 (.getfield 248) 3 8 4 1 261 := rfl
theorem f114_25 : FF 114 25 (.iload_n 1) 1 0 0 0 0 := rfl
theorem f114_26 : FF 114 26 (.iaload) 1 0 0 0 0 := rfl
theorem f114_27 : FF 114 27 (.iconst (-1)) 1 0 0 0 0 := rfl
theorem f114_28 : FF 114 28 (.if_icmp .eq 7) 3 0 0 0 0 := rfl
theorem f114_31 : FF 114 31 (.iconst 1) 1 0 0 0 0 := rfl
theorem f114_32 : FF 114 32 (.goto 4) 3 0 0 0 0 := rfl
theorem f114_35 : FF 114 35 (.iconst 0) 1 0 0 0 0 := rfl
theorem f114_36 : FF 114 36 (.ireturn) 1 0 0 0 0 := rfl
theorem f115_0 : FF 115 0 (.iload_n 1) 1 0 0 0 0 := rfl
theorem f115_1 : FF 115 1 (.aload_n 0) 1 0 0 0 0 := rfl
theorem f115_2 : FF 115 2 (.getfield 61) 3 11 8 1 625 := rfl
theorem f115_5 : FF 115 5 (.getfield 139) 3 6 5 0 346 := rfl
theorem f115_8 : FF 115 8 (.invokestatic 149) 3 132 2 1 954 := rfl
theorem f115_11 : FF 115 11 (.aload_n 0) 1 0 0 0 0 := rfl
theorem f115_12 : FF 115 12 (.invokevirtual 244) 3 139 0 0 860 := rfl
theorem f115_15 : FF 115 15 (.aload_n 0) 1 0 0 0 0 := rfl
theorem f115_16 : FF 115 16 (.getfield 50) 3 11 6 1 623 := rfl
theorem f115_19 : FF 115 19 (.getfield 251) 3 8 6 1 265 := rfl
theorem f115_22 : FF 115 22 (.iload_n 1) 1 0 0 0 0 := rfl
theorem f115_23 : FF 115 23 (.baload) 1 0 0 0 0 := rfl
theorem f115_24 : FF 115 24 (.ireturn) 1 0 0 0 0 := rfl
theorem f116_0 : FF 116 0 (.iload_n 1) 1 0 0 0 0 := rfl
theorem f116_1 : FF 116 1 (.aload_n 0) 1 0 0 0 0 := rfl
theorem f116_2 : FF 116 2 (.getfield 61) 3 11 8 1 625 := rfl
theorem f116_5 : FF 116 5 (.getfield 115) 3 6 0 1 331 := rfl
theorem f116_8 : FF 116 8 (.getfield 119) 3 5 2 0 317 := rfl
theorem f116_11 : FF 116 11 (.invokestatic 149) 3 132 2 1 954 := rfl
theorem f116_14 : FF 116 14 (.aload_n 0) 1 0 0 0 0 := rfl
theorem f116_15 : FF 116 15 (.invokevirtual 244) 3 139 0 0 860 := rfl
theorem f116_18 : FF 116 18 (.aload_n 0) 1 0 0 0 0 := rfl
theorem f116_19 : FF 116 19 (.getfield 50) 3 11 6 1 623 := rfl
theorem f116_22 : FF 116 22 (.getfield 248) 3 8 4 1 261 := rfl
theorem f116_25 : FF 116 25 (.iload_n 1) 1 0 0 0 0 := rfl
theorem f116_26 : FF 116 26 (.iaload) 1 0 0 0 0 := rfl
theorem f116_27 : FF 116 27 (.ireturn) 1 0 0 0 0 := rfl
theorem f117_0 : FF 117 0 (.iload_n 1) 1 0 0 0 0 := rfl
theorem f117_1 : FF 117 1 (.aload_n 0) 1 0 0 0 0 := rfl
theorem f117_2 : FF 117 2 (.getfield 61) 3 11 8 1 625 := rfl
theorem f117_5 : FF 117 5 (.getfield 115) 3 6 0 1 331 := rfl
theorem f117_8 : FF 117 8 (.getfield 119) 3 5 2 0 317 := rfl
theorem f117_11 : FF 117 11 (.invokestatic 149) 3 132 2 1 954 := rfl
theorem f117_14 : FF 117 14 (.aload_n 0) 1 0 0 0 0 := rfl
theorem f117_15 : FF 117 15 (.invokevirtual 244) 3 139 0 0 860 := rfl
theorem f117_18 : FF 117 18 (.aload_n 0) 1 0 0 0 0 := rfl
theorem f117_19 : FF 117 19 (.getfield 50) 3 11 6 1 623 := rfl
theorem f117_22 : FF 117 22 (.getfield 255) 3 8 5 1 263 := rfl
theorem f117_25 : FF 117 25 (.iload_n 1) 1 0 0 0 0 := rfl
theorem f117_26 : FF 117 26 (.iaload) 1 0 0 0 0 := rfl
theorem f117_27 : FF 117 27 (.ireturn) 1 0 0 0 0 := rfl
theorem f118_0 : FF 118 0 (.aload_n 0) 1 0 0 0 0 := rfl
theorem f118_1 : FF 118 1 (.invokevirtual 244) 3 139 0 0 860 := rfl
theorem f118_4 : FF 118 4 (.aload_n 0) 1 0 0 0 0 := rfl
theorem f118_5 : FF 118 5 (.getfield 50) 3 11 6 1 623 := rfl
theorem f118_8 : FF 118 8 (.getfield 258) 3 8 2 0 257 := rfl
theorem f118_11 : FF 118 11 (.ireturn) 1 0 0 0 0 := rfl
theorem f119_0 : FF 119 0 (.aload_n 0) 1 0 0 0 0 := rfl
theorem f119_1 : FF 119 1 (.invokevirtual 244) 3 139 0 0 860 := rfl
theorem f119_4 : FF 119 4 (.aload_n 0) 1 0 0 0 0 := rfl
theorem f119_5 : FF 119 5 (.getfield 50) 3 11 6 1 623 := rfl
theorem f119_8 : FF 119 8 (.getfield 261) 3 8 3 0 259 := rfl
theorem f119_11 : FF 119 11 (.ireturn) 1 0 0 0 0 := rfl
theorem f120_0 : FF 120 0 (.aload_n 0) 1 0 0 0 0 := rfl
theorem f120_1 : FF 120 1 (.invokevirtual 244) 3 139 0 0 860 := rfl
theorem f120_4 : FF 120 4 (.aload_n 0) 1 0 0 0 0 := rfl
theorem f120_5 : FF 120 5 (.getfield 26) 3 11 2 1 619 := rfl
theorem f120_8 : FF 120 8 (.getfield 142) 3 9 1 1 185 := rfl
theorem f120_11 : FF 120 11 (.aload_n 0) 1 0 0 0 0 := rfl
theorem f120_12 : FF 120 12 (.getfield 26) 3 11 2 1 619 := rfl
theorem f120_15 : FF 120 15 (.getfield 157) 3 9 0 1 183 := rfl
theorem f120_18 : FF 120 18 (.invokevirtual 264) 3 40 1 0 766 := rfl
theorem f120_21 : FF 120 21 (.iconst (-1)) 1 0 0 0 0 := rfl
theorem f120_22 : FF 120 22 (.if_icmp .ne 55) 3 0 0 0 0 := rfl
theorem f120_25 : FF 120 25 (.aload_n 0) 1 0 0 0 0 := rfl
theorem f120_26 : FF 120 26 (.getfield 26) 3 11 2 1 619 := rfl
theorem f120_29 : FF 120 29 (.getfield 206) 3 9 2 1 187 := rfl
theorem f120_32 : FF 120 32 (.invokevirtual 268) 3 11 0 0 902 := rfl
theorem f120_35 : FF 120 35 (.ifCond .eq 42) 3 0 0 0 0 := rfl
theorem f120_38 : FF 120 38 (.aload_n 0) 1 0 0 0 0 := rfl
theorem f120_39 : FF 120 39 (.getfield 50) 3 11 6 1 623 := rfl
theorem f120_42 : FF 120 42 (.getfield 247) 3 8 1 0 255 := rfl
theorem f120_45 : FF 120 45 (.aload_n 0) 1 0 0 0 0 := rfl
theorem f120_46 : FF 120 46 (.getfield 50) 3 11 6 1 623 := rfl
theorem f120_49 : FF 120 49 (.aload_n 0) 1 0 0 0 0 := rfl
theorem f120_50 : FF 120 50 (.getfield 61) 3 11 8 1 625 := rfl
theorem f120_53 : FF 120 53 (.aload_n 0) 1 0 0 0 0 := rfl
theorem f120_54 : FF 120 54 (.getfield 26) 3 11 2 1 619 := rfl
theorem f120_57 : FF 120 57 (.getfield 142) 3 9 1 1 185 := rfl
theorem f120_60 : FF 120 60 (.aload_n 0) 1 0 0 0 0 := rfl
theorem f120_61 : FF 120 61 (.getfield 26) 3 11 2 1 619 := rfl
theorem f120_64 : FF 120 64 (.getfield 157) 3 9 0 1 183 := rfl
theorem f120_67 : FF 120 67 (.invokevirtual 272) 3 64 3 0 909 := rfl
theorem f120_70 : FF 120 70 (.if_icmp .ne 7) 3 0 0 0 0 := rfl
theorem f120_73 : FF 120 73 (.iconst 1) 1 0 0 0 0 := rfl
theorem f120_74 : FF 120 74 (.goto 4) 3 0 0 0 0 := rfl
theorem f120_77 : FF 120 77 (.iconst 0) 1 0 0 0 0 := rfl
theorem f120_78 : FF 120 78 (.ireturn) 1 0 0 0 0 := rfl
theorem f121_0 : FF 121 0 (.aload_n 0) 1 0 0 0 0 := rfl
theorem f121_1 : FF 121 1 (.getfield 61) 3 11 8 1 625 := rfl
theorem f121_4 : FF 121 4 (.getfield 136) 3 6 2 1 338 := rfl
theorem f121_7 : FF 121 7 (.getfield 119) 3 5 2 0 317 := rfl
theorem f121_10 : FF 121 10 (.istore_n 1) 1 0 0 0 0 := rfl
theorem f121_11 : FF 121 11 (.iconst 0) 1 0 0 0 0 := rfl
theorem f121_12 : FF 121 12 (.istore_n 2) 1 0 0 0 0 := rfl
theorem f121_13 : FF 121 13 (.iconst 0) 1 0 0 0 0 := rfl
theorem f121_14 : FF 121 14 (.istore_n 3) 1 0 0 0 0 := rfl
theorem f121_15 : FF 121 15 (.iload_n 3) 1 0 0 0 0 := rfl
theorem f121_16 : FF 121 16 (.iload_n 1) 1 0 0 0 0 := rfl
theorem f121_17 : FF 121 17 (.if_icmp .ge 24) 3 0 0 0 0 := rfl
theorem f121_20 : FF 121 20 (.iload_n 2) 1 0 0 0 0 := rfl
theorem f121_21 : FF 121 21 (.aload_n 0) 1 0 0 0 0 := rfl
theorem f121_22 : FF 121 22 (.getfield 26) 3 11 2 1 619 := rfl
theorem f121_25 : FF 121 25 (.getfield 157) 3 9 0 1 183 := rfl
theorem f121_28 : FF 121 28 (.getfield 166) 3 0 1 1 117 := rfl
theorem f121_31 : FF 121 31 (.iload_n 3) 1 0 0 0 0 := rfl
theorem f121_32 : FF 121 32 (.iaload) 1 0 0 0 0 := rfl
theorem f121_33 : FF 121 33 (.iadd) 1 0 0 0 0 := rfl
theorem f121_34 : FF 121 34 (.istore_n 2) 1 0 0 0 0 := rfl
theorem f121_35 : FF 121 35 (.iinc 3 1) 3 0 0 0 0 := rfl
theorem f121_38 : FF 121 38 (.goto (-23)) 3 0 0 0 0 := rfl
theorem f121_41 : FF 121 41 (.iload_n 1) 1 0 0 0 0 := rfl
theorem f121_42 : FF 121 42 (.ifCond .ne 7) 3 0 0 0 0 := rfl
theorem f121_45 : FF 121 45 (.dconst 0) 1 0 0 0 0 := rfl
theorem f121_46 : FF 121 46 (.goto 8) 3 0 0 0 0 := rfl
theorem f121_49 : FF 121 49 (.iload_n 2) 1 0 0 0 0 := rfl
theorem f121_50 : FF 121 50 (.i2d) 1 0 0 0 0 := rfl
theorem f121_51 : FF 121 51 (.iload_n 1) 1 0 0 0 0 := rfl
theorem f121_52 : FF 121 52 (.i2d) 1 0 0 0 0 := rfl
theorem f121_53 : FF 121 53 (.ddiv) 1 0 0 0 0 := rfl
theorem f121_54 : FF 121 54 (.dreturn) 1 0 0 0 0 := rfl
theorem f122_0 : FF 122 0 (.iload_n 1) 1 0 0 0 0 := rfl
theorem f122_1 : FF 122 1 (.aload_n 0) 1 0 0 0 0 := rfl
theorem f122_2 : FF 122 2 (.getfield 61) 3 11 8 1 625 := rfl
theorem f122_5 : FF 122 5 (.getfield 133) 3 6 1 1 335 := rfl
theorem f122_8 : FF 122 8 (.getfield 119) 3 5 2 0 317 := rfl
theorem f122_11 : FF 122 11 (.invokestatic 149) 3 132 2 1 954 := rfl
theorem f122_14 : FF 122 14 (.aload_n 0) 1 0 0 0 0 := rfl
theorem f122_15 : FF 122 15 (.invokevirtual 125) 3 138 0 0 709 := rfl
theorem f122_18 : FF 122 18 (.aload_n 0) 1 0 0 0 0 := rfl
theorem f122_19 : FF 122 19 (.iload_n 1) 1 0 0 0 0 := rfl
theorem f122_20 : FF 122 20 (.invokevirtual 276) 3 140 1 0 730 := rfl
theorem f122_23 : FF 122 23 (.ireturn) 1 0 0 0 0 := rfl
theorem f123_0 : FF 123 0 (.iload_n 1) 1 0 0 0 0 := rfl
theorem f123_1 : FF 123 1 (.aload_n 0) 1 0 0 0 0 := rfl
theorem f123_2 : FF 123 2 (.getfield 61) 3 11 8 1 625 := rfl
theorem f123_5 : FF 123 5 (.getfield 136) 3 6 2 1 338 := rfl
theorem f123_8 : FF 123 8 (.getfield 119) 3 5 2 0 317 := rfl
theorem f123_11 : FF 123 11 (.invokestatic 149) 3 132 2 1 954 := rfl
theorem f123_14 : FF 123 14 (.iload_n 2) 1 0 0 0 0 := rfl
theorem f123_15 : FF 123 15 (.ifCond .lt 13) 3 0 0 0 0 := rfl
theorem f123_18 : FF 123 18 (.iload_n 2) 1 0 0 0 0 := rfl
theorem f123_19 : FF 123 19 (.bipush 9) 2 0 0 0 0 := rfl
theorem f123_21 : FF 123 21 (.if_icmp .gt 7) 3 0 0 0 0 := rfl
theorem f123_24 : FF 123 24 (.iconst 1) 1 0 0 0 0 := rfl
theorem f123_25 : FF 123 25 (.goto 4) 3 0 0 0 0 := rfl
theorem f123_28 : FF 123 28 (.iconst 0) 1 0 0 0 0 := rfl
theorem f123_29 : FF 123 29 (.invokestatic 224) 3 133 1 1 1151 := rfl
theorem f123_32 : FF 123 32 (.aload_n 0) 1 0 0 0 0 := rfl
theorem f123_33 : FF 123 33 (.iload_n 1) 1 0 0 0 0 := rfl
theorem f123_34 : FF 123 34 (.iload_n 2) 1 0 0 0 0 := rfl
theorem f123_35 : FF 123 35 (.invokevirtual 279) 3 141 2 0 762 := rfl
theorem f123_38 : FF 123 38 (.invokestatic 283) 3 134 1 1 1213 := rfl
theorem f123_41 : FF 123 41 (.aload_n 0) 1 0 0 0 0 := rfl
theorem f123_42 : FF 123 42 (.invokevirtual 125) 3 138 0 0 709 := rfl
theorem f123_45 : FF 123 45 (.aload_n 0) 1 0 0 0 0 := rfl
theorem f123_46 : FF 123 46 (.getfield 26) 3 11 2 1 619 := rfl
theorem f123_49 : FF 123 49 (.getfield 157) 3 9 0 1 183 := rfl
theorem f123_52 : FF 123 52 (.getfield 166) 3 0 1 1 117 := rfl
theorem f123_55 : FF 123 55 (.iload_n 1) 1 0 0 0 0 := rfl
theorem f123_56 : FF 123 56 (.iaload) 1 0 0 0 0 := rfl
theorem f123_57 : FF 123 57 (.istore_n 3) 1 0 0 0 0 := rfl
theorem f123_58 : FF 123 58 (.aload_n 0) 1 0 0 0 0 := rfl
theorem f123_59 : FF 123 59 (.getfield 26) 3 11 2 1 619 := rfl
theorem f123_62 : FF 123 62 (.getfield 157) 3 9 0 1 183 := rfl
theorem f123_65 : FF 123 65 (.getfield 166) 3 0 1 1 117 := rfl
theorem f123_68 : FF 123 68 (.iload_n 1) 1 0 0 0 0 := rfl
theorem f123_69 : FF 123 69 (.iload_n 2) 1 0 0 0 0 := rfl
theorem f123_70 : FF 123 70 (.iastore) 1 0 0 0 0 := rfl
theorem f123_71 : FF 123 71 (.iload_n 3) 1 0 0 0 0 := rfl
theorem f123_72 : FF 123 72 (.ireturn) 1 0 0 0 0 := rfl
theorem f124_0 : FF 124 0 (.aload_n 0) 1 0 0 0 0 := rfl
theorem f124_1 : FF 124 1 (.invokevirtual 125) 3 138 0 0 709 := rfl
theorem f124_4 : FF 124 4 (.aload_n 0) 1 0 0 0 0 := rfl
theorem f124_5 : FF 124 5 (.getfield 26) 3 11 2 1 619 := rfl
theorem f124_8 : FF 124 8 (.getfield 157) 3 9 0 1 183 := rfl
theorem f124_11 : FF 124 11 (.getfield 161) 3 0 0 0 112 := rfl
theorem f124_14 : FF 124 14 (.istore_n 1) 1 0 0 0 0 := rfl
theorem f124_15 : FF 124 15 (.aload_n 0) 1 0 0 0 0 := rfl
theorem f124_16 : FF 124 16 (.invokevirtual 286) 3 142 0 0 767 := rfl
theorem f124_19 : FF 124 19 (.iload_n 1) 1 0 0 0 0 := rfl
theorem f124_20 : FF 124 20 (.ireturn) 1 0 0 0 0 := rfl
theorem f125_0 : FF 125 0 (.aload_n 0) 1 0 0 0 0 := rfl
theorem f125_1 : FF 125 1 (.invokevirtual 125) 3 138 0 0 709 := rfl
theorem f125_4 : FF 125 4 (.aload_n 0) 1 0 0 0 0 := rfl
theorem f125_5 : FF 125 5 (.getfield 26) 3 11 2 1 619 := rfl
theorem f125_8 : FF 125 8 (.getfield 206) 3 9 2 1 187 := rfl
theorem f125_11 : FF 125 11 (.getfield 218) 3 1 3 0 161 := rfl
theorem f125_14 : FF 125 14 (.istore_n 1) 1 0 0 0 0 := rfl
theorem f125_15 : FF 125 15 (.aload_n 0) 1 0 0 0 0 := rfl
theorem f125_16 : FF 125 16 (.getfield 26) 3 11 2 1 619 := rfl
theorem f125_19 : FF 125 19 (.getfield 206) 3 9 2 1 187 := rfl
theorem f125_22 : FF 125 22 (.aload_n 0) 1 0 0 0 0 := rfl
theorem f125_23 : FF 125 23 (.getfield 26) 3 11 2 1 619 := rfl
theorem f125_26 : FF 125 26 (.getfield 157) 3 9 0 1 183 := rfl
theorem f125_29 : FF 125 29 (.getfield 161) 3 0 0 0 112 := rfl
theorem f125_32 : FF 125 32 (.invokevirtual 289) 3 5 1 0 771 := rfl
theorem f125_35 : FF 125 35 (.iload_n 1) 1 0 0 0 0 := rfl
theorem f125_36 : FF 125 36 (.ireturn) 1 0 0 0 0 := rfl
theorem f126_0 : FF 126 0 (.iload_n 1) 1 0 0 0 0 := rfl
theorem f126_1 : FF 126 1 (.aload_n 0) 1 0 0 0 0 := rfl
theorem f126_2 : FF 126 2 (.getfield 61) 3 11 8 1 625 := rfl
theorem f126_5 : FF 126 5 (.getfield 136) 3 6 2 1 338 := rfl
theorem f126_8 : FF 126 8 (.getfield 119) 3 5 2 0 317 := rfl
theorem f126_11 : FF 126 11 (.invokestatic 149) 3 132 2 1 954 := rfl
theorem f126_14 : FF 126 14 (.iload_n 2) 1 0 0 0 0 := rfl
theorem f126_15 : FF 126 15 (.ifCond .lt 22) 3 0 0 0 0 := rfl
theorem f126_18 : FF 126 18 (.iload_n 2) 1 0 0 0 0 := rfl
theorem f126_19 : FF 126 19 (.iconst 5) 1 0 0 0 0 := rfl
theorem f126_20 : FF 126 20 (.if_icmp .gt 17) 3 0 0 0 0 := rfl
theorem f126_23 : FF 126 23 (.iload_n 3) 1 0 0 0 0 := rfl
theorem f126_24 : FF 126 24 (.ifCond .lt 13) 3 0 0 0 0 := rfl
theorem f126_27 : FF 126 27 (.iload_n 3) 1 0 0 0 0 := rfl
theorem f126_28 : FF 126 28 (.bipush 9) 2 0 0 0 0 := rfl
theorem f126_30 : FF 126 30 (.if_icmp .gt 7) 3 0 0 0 0 := rfl
theorem f126_33 : FF 126 33 (.iconst 1) 1 0 0 0 0 := rfl
theorem f126_34 : FF 126 34 (.goto 4) 3 0 0 0 0 := rfl
theorem f126_37 : FF 126 37 (.iconst 0) 1 0 0 0 0 := rfl
theorem f126_38 : FF 126 38 (.invokestatic 224) 3 133 1 1 1151 := rfl
theorem f126_41 : FF 126 41 (.aload_n 0) 1 0 0 0 0 := rfl
theorem f126_42 : FF 126 42 (.getfield 26) 3 11 2 1 619 := rfl
theorem f126_45 : FF 126 45 (.getfield 142) 3 9 1 1 185 := rfl
theorem f126_48 : FF 126 48 (.getfield 146) 3 4 0 0 131 := rfl
theorem f126_51 : FF 126 51 (.bipush 12) 2 0 0 0 0 := rfl
theorem f126_53 : FF 126 53 (.if_icmp .ge 47) 3 0 0 0 0 := rfl
theorem f126_56 : FF 126 56 (.aload_n 0) 1 0 0 0 0 := rfl
theorem f126_57 : FF 126 57 (.getfield 26) 3 11 2 1 619 := rfl
theorem f126_60 : FF 126 60 (.getfield 157) 3 9 0 1 183 := rfl
theorem f126_63 : FF 126 63 (.getfield 166) 3 0 1 1 117 := rfl
theorem f126_66 : FF 126 66 (.iload_n 1) 1 0 0 0 0 := rfl
theorem f126_67 : FF 126 67 (.iaload) 1 0 0 0 0 := rfl
theorem f126_68 : FF 126 68 (.iload_n 2) 1 0 0 0 0 := rfl
theorem f126_69 : FF 126 69 (.iload_n 3) 1 0 0 0 0 := rfl
theorem f126_70 : FF 126 70 (.invokestatic 291) 3 136 3 1 1239 := rfl
theorem f126_73 : FF 126 73 (.ifCond .eq 27) 3 0 0 0 0 := rfl
theorem f126_76 : FF 126 76 (.aload_n 0) 1 0 0 0 0 := rfl
theorem f126_77 : FF 126 77 (.getfield 61) 3 11 8 1 625 := rfl
theorem f126_80 : FF 126 80 (.getfield 169) 3 6 3 1 341 := rfl
theorem f126_83 : FF 126 83 (.getfield 166) 3 0 1 1 117 := rfl
theorem f126_86 : FF 126 86 (.iload_n 1) 1 0 0 0 0 := rfl
theorem f126_87 : FF 126 87 (.iaload) 1 0 0 0 0 := rfl
theorem f126_88 : FF 126 88 (.iload_n 2) 1 0 0 0 0 := rfl
theorem f126_89 : FF 126 89 (.iload_n 3) 1 0 0 0 0 := rfl
theorem f126_90 : FF 126 90 (.invokestatic 291) 3 136 3 1 1239 := rfl
theorem f126_93 : FF 126 93 (.ifCond .eq 7) 3 0 0 0 0 := rfl
theorem f126_96 : FF 126 96 (.iconst 1) 1 0 0 0 0 := rfl
theorem f126_97 : FF 126 97 (.goto 4) 3 0 0 0 0 := rfl
theorem f126_100 : FF 126 100 (.iconst 0) 1 0 0 0 0 := rfl
theorem f126_101 : FF 126 101 (.invokestatic 283) 3 134 1 1 1213 := rfl
theorem f126_104 : FF 126 104 (.aload_n 0) 1 0 0 0 0 := rfl
theorem f126_105 : FF 126 105 (.invokevirtual 125) 3 138 0 0 709 := rfl
theorem f126_108 : FF 126 108 (.aload_n 0) 1 0 0 0 0 := rfl
theorem f126_109 : FF 126 109 (.getfield 26) 3 11 2 1 619 := rfl
theorem f126_112 : FF 126 112 (.getfield 142) 3 9 1 1 185 := rfl
theorem f126_115 : FF 126 115 (.iconst (-1)) 1 0 0 0 0 := rfl
theorem f126_116 : FF 126 116 (.iload_n 1) 1 0 0 0 0 := rfl
theorem f126_117 : FF 126 117 (.iload_n 2) 1 0 0 0 0 := rfl
theorem f126_118 : FF 126 118 (.iload_n 3) 1 0 0 0 0 := rfl
theorem f126_119 : FF 126 119 (.invokevirtual 295) 3 38 4 0 1240 := rfl
theorem f126_122 : FF 126 122 (.aload_n 0) 1 0 0 0 0 := rfl
theorem f126_123 : FF 126 123 (.getfield 26) 3 11 2 1 619 := rfl
theorem f126_126 : FF 126 126 (.getfield 142) 3 9 1 1 185 := rfl
theorem f126_129 : FF 126 129 (.getfield 146) 3 4 0 0 131 := rfl
theorem f126_132 : FF 126 132 (.iconst 1) 1 0 0 0 0 := rfl
theorem f126_133 : FF 126 133 (.isub) 1 0 0 0 0 := rfl
theorem f126_134 : FF 126 134 (.ireturn) 1 0 0 0 0 := rfl
theorem f127_0 : FF 127 0 (.aload_n 0) 1 0 0 0 0 := rfl
theorem f127_1 : FF 127 1 (.getfield 36) 3 11 4 1 621 := rfl
theorem f127_4 : FF 127 4 (.getfield 105) 3 2 2 0 207 := rfl
theorem f127_7 : FF 127 7 (.ifCond .le 7) 3 0 0 0 0 := rfl
theorem f127_10 : FF 127 10 (.iconst 1) 1 0 0 0 0 := rfl
theorem f127_11 : FF 127 11 (.goto 4) 3 0 0 0 0 := rfl
theorem f127_14 : FF 127 14 (.iconst 0) 1 0 0 0 0 := rfl
theorem f127_15 : FF 127 15 (.invokestatic 299) 3 135 1 1 1249 := rfl
theorem f127_18 : FF 127 18 (.aload_n 0) 1 0 0 0 0 := rfl
theorem f127_19 : FF 127 19 (.getfield 36) 3 11 4 1 621 := rfl
theorem f127_22 : FF 127 22 (.aload_n 0) 1 0 0 0 0 := rfl
theorem f127_23 : FF 127 23 (.getfield 26) 3 11 2 1 619 := rfl
theorem f127_26 : FF 127 26 (.invokevirtual 302) 3 16 1 0 1268 := rfl
theorem f127_29 : FF 127 29 (.aload_n 0) 1 0 0 0 0 := rfl
theorem f127_30 : FF 127 30 (.getfield 50) 3 11 6 1 623 := rfl
theorem f127_33 : FF 127 33 (.iconst 0) 1 0 0 0 0 := rfl
theorem f127_34 : FF 127 34 (.putfield 112) 3 8 0 2 253 := rfl
theorem f127_37 : FF 127 37 (.aload_n 0) 1 0 0 0 0 := rfl
theorem f127_38 : FF 127 38 (.getfield 36) 3 11 4 1 621 := rfl
theorem f127_41 : FF 127 41 (.getfield 105) 3 2 2 0 207 := rfl
theorem f127_44 : FF 127 44 (.ireturn) 1 0 0 0 0 := rfl
theorem f128_0 : FF 128 0 (.aload_n 0) 1 0 0 0 0 := rfl
theorem f128_1 : FF 128 1 (.iconst 0) 1 0 0 0 0 := rfl
theorem f128_2 : FF 128 2 (.putfield 306) 3 11 10 0 627 := rfl
theorem f128_5 : FF 128 5 (.aload_n 0) 1 0 0 0 0 := rfl
theorem f128_6 : FF 128 6 (.aload_n 0) 1 0 0 0 0 := rfl
theorem f128_7 : FF 128 7 (.getfield 61) 3 11 8 1 625 := rfl
theorem f128_10 : FF 128 10 (.getfield 115) 3 6 0 1 331 := rfl
theorem f128_13 : FF 128 13 (.aload_n 0) 1 0 0 0 0 := rfl
theorem f128_14 : FF 128 14 (.getfield 26) 3 11 2 1 619 := rfl
theorem f128_17 : FF 128 17 (.getfield 157) 3 9 0 1 183 := rfl
theorem f128_20 : FF 128 20 (.getfield 161) 3 0 0 0 112 := rfl
theorem f128_23 : FF 128 23 (.invokevirtual 309) 3 144 2 0 929 := rfl
theorem f128_26 : FF 128 26 (.iconst 0) 1 0 0 0 0 := rfl
theorem f128_27 : FF 128 27 (.istore_n 1) 1 0 0 0 0 := rfl
theorem f128_28 : FF 128 28 (.iload_n 1) 1 0 0 0 0 := rfl
theorem f128_29 : FF 128 29 (.aload_n 0) 1 0 0 0 0 := rfl
theorem f128_30 : FF 128 30 (.getfield 61) 3 11 8 1 625 := rfl
theorem f128_33 : FF 128 33 (.getfield 136) 3 6 2 1 338 := rfl
theorem f128_36 : FF 128 36 (.getfield 119) 3 5 2 0 317 := rfl
theorem f128_39 : FF 128 39 (.if_icmp .ge 52) 3 0 0 0 0 := rfl
theorem f128_42 : FF 128 42 (.aload_n 0) 1 0 0 0 0 := rfl
theorem f128_43 : FF 128 43 (.bipush 32) 2 0 0 0 0 := rfl
theorem f128_45 : FF 128 45 (.invokevirtual 313) 3 145 1 0 933 := rfl
theorem f128_48 : FF 128 48 (.aload_n 0) 1 0 0 0 0 := rfl
theorem f128_49 : FF 128 49 (.aload_n 0) 1 0 0 0 0 := rfl
theorem f128_50 : FF 128 50 (.getfield 61) 3 11 8 1 625 := rfl
theorem f128_53 : FF 128 53 (.getfield 136) 3 6 2 1 338 := rfl
theorem f128_56 : FF 128 56 (.iload_n 1) 1 0 0 0 0 := rfl
theorem f128_57 : FF 128 57 (.invokevirtual 309) 3 144 2 0 929 := rfl
theorem f128_60 : FF 128 60 (.aload_n 0) 1 0 0 0 0 := rfl
theorem f128_61 : FF 128 61 (.bipush 61) 2 0 0 0 0 := rfl
theorem f128_63 : FF 128 63 (.invokevirtual 313) 3 145 1 0 933 := rfl
theorem f128_66 : FF 128 66 (.aload_n 0) 1 0 0 0 0 := rfl
theorem f128_67 : FF 128 67 (.bipush 48) 2 0 0 0 0 := rfl
theorem f128_69 : FF 128 69 (.aload_n 0) 1 0 0 0 0 := rfl
theorem f128_70 : FF 128 70 (.getfield 26) 3 11 2 1 619 := rfl
theorem f128_73 : FF 128 73 (.getfield 157) 3 9 0 1 183 := rfl
theorem f128_76 : FF 128 76 (.getfield 166) 3 0 1 1 117 := rfl
theorem f128_79 : FF 128 79 (.iload_n 1) 1 0 0 0 0 := rfl
theorem f128_80 : FF 128 80 (.iaload) 1 0 0 0 0 := rfl
theorem f128_81 : FF 128 81 (.iadd) 1 0 0 0 0 := rfl
theorem f128_82 : FF 128 82 (.invokevirtual 313) 3 145 1 0 933 := rfl
theorem f128_85 : FF 128 85 (.iinc 1 1) 3 0 0 0 0 := rfl
theorem f128_88 : FF 128 88 (.goto (-60)) 3 0 0 0 0 := rfl
theorem f128_91 : FF 128 91 (.aload_n 0) 1 0 0 0 0 := rfl
theorem f128_92 : FF 128 92 (.getfield 306) 3 11 10 0 627 := rfl
theorem f128_95 : FF 128 95 (.ireturn) 1 0 0 0 0 := rfl
theorem f129_0 : FF 129 0 (.iload_n 1) 1 0 0 0 0 := rfl
theorem f129_1 : FF 129 1 (.ifCond .lt 11) 3 0 0 0 0 := rfl
theorem f129_4 : FF 129 4 (.iload_n 1) 1 0 0 0 0 := rfl
theorem f129_5 : FF 129 5 (.aload_n 0) 1 0 0 0 0 := rfl
theorem f129_6 : FF 129 6 (.getfield 306) 3 11 10 0 627 := rfl
theorem f129_9 : FF 129 9 (.if_icmp .lt 7) 3 0 0 0 0 := rfl
theorem f129_12 : FF 129 12 (.iconst (-1)) 1 0 0 0 0 := rfl
theorem f129_13 : FF 129 13 (.goto 9) 3 0 0 0 0 := rfl
theorem f129_16 : FF 129 16 (.aload_n 0) 1 0 0 0 0 := rfl
theorem f129_17 : FF 129 17 (.getfield 54) 3 11 7 1 624 := rfl
theorem f129_20 : FF 129 20 (.iload_n 1) 1 0 0 0 0 := rfl
theorem f129_21 : FF 129 21 (.iaload) 1 0 0 0 0 := rfl
theorem f129_22 : FF 129 22 (.ireturn) 1 0 0 0 0 := rfl
theorem f130_0 : FF 130 0 (.aload_n 0) 1 0 0 0 0 := rfl
theorem f130_1 : FF 130 1 (.getfield 30) 3 11 3 1 620 := rfl
theorem f130_4 : FF 130 4 (.aload_n 0) 1 0 0 0 0 := rfl
theorem f130_5 : FF 130 5 (.getfield 26) 3 11 2 1 619 := rfl
theorem f130_8 : FF 130 8 (.invokevirtual 316) 3 67 1 0 945 := rfl
theorem f130_11 : FF 130 11 (.aload_n 0) 1 0 0 0 0 := rfl
theorem f130_12 : FF 130 12 (.iconst 1) 1 0 0 0 0 := rfl
theorem f130_13 : FF 130 13 (.putfield 108) 3 11 13 2 630 := rfl
theorem f130_16 : FF 130 16 (.aload_n 0) 1 0 0 0 0 := rfl
theorem f130_17 : FF 130 17 (.getfield 26) 3 11 2 1 619 := rfl
theorem f130_20 : FF 130 20 (.getfield 157) 3 9 0 1 183 := rfl
theorem f130_23 : FF 130 23 (.getfield 161) 3 0 0 0 112 := rfl
theorem f130_26 : FF 130 26 (.ireturn) 1 0 0 0 0 := rfl
theorem f131_0 : FF 131 0 (.aload_n 0) 1 0 0 0 0 := rfl
theorem f131_1 : FF 131 1 (.getfield 108) 3 11 13 2 630 := rfl
theorem f131_4 : FF 131 4 (.invokestatic 299) 3 135 1 1 1249 := rfl
theorem f131_7 : FF 131 7 (.aload_n 0) 1 0 0 0 0 := rfl
theorem f131_8 : FF 131 8 (.getfield 26) 3 11 2 1 619 := rfl
theorem f131_11 : FF 131 11 (.aload_n 0) 1 0 0 0 0 := rfl
theorem f131_12 : FF 131 12 (.getfield 30) 3 11 3 1 620 := rfl
theorem f131_15 : FF 131 15 (.invokevirtual 316) 3 67 1 0 945 := rfl
theorem f131_18 : FF 131 18 (.aload_n 0) 1 0 0 0 0 := rfl
theorem f131_19 : FF 131 19 (.getfield 36) 3 11 4 1 621 := rfl
theorem f131_22 : FF 131 22 (.iconst 0) 1 0 0 0 0 := rfl
theorem f131_23 : FF 131 23 (.putfield 105) 3 2 2 0 207 := rfl
theorem f131_26 : FF 131 26 (.aload_n 0) 1 0 0 0 0 := rfl
theorem f131_27 : FF 131 27 (.getfield 50) 3 11 6 1 623 := rfl
theorem f131_30 : FF 131 30 (.iconst 0) 1 0 0 0 0 := rfl
theorem f131_31 : FF 131 31 (.putfield 112) 3 8 0 2 253 := rfl
theorem f131_34 : FF 131 34 (.aload_n 0) 1 0 0 0 0 := rfl
theorem f131_35 : FF 131 35 (.getfield 26) 3 11 2 1 619 := rfl
theorem f131_38 : FF 131 38 (.getfield 157) 3 9 0 1 183 := rfl
theorem f131_41 : FF 131 41 (.getfield 161) 3 0 0 0 112 := rfl
theorem f131_44 : FF 131 44 (.ireturn) 1 0 0 0 0 := rfl
theorem f132_0 : FF 132 0 (.iload_n 0) 1 0 0 0 0 := rfl
theorem f132_1 : FF 132 1 (.ifCond .lt 8) 3 0 0 0 0 := rfl
theorem f132_4 : FF 132 4 (.iload_n 0) 1 0 0 0 0 := rfl
theorem f132_5 : FF 132 5 (.iload_n 1) 1 0 0 0 0 := rfl
theorem f132_6 : FF 132 6 (.if_icmp .lt 14) 3 0 0 0 0 := rfl
theorem f132_9 : FF 132 9 (.new 319) 3 0 0 9 957 := rfl
theorem f132_12 : FF 132 12 (.dup) 1 0 0 0 0 := rfl
theorem f132_13 : FF 132 13 (.ldc_w 321) 3 27 0 0 999 := rfl
theorem f132_16 : FF 132 16 (.invokespecial 323) 3 0 0 10 1000 := rfl
theorem f132_19 : FF 132 19 (.athrow) 1 0 0 0 0 := rfl
theorem f132_20 : FF 132 20 (.return_) 1 0 0 0 0 := rfl
theorem f133_0 : FF 133 0 (.iload_n 0) 1 0 0 0 0 := rfl
theorem f133_1 : FF 133 1 (.ifCond .ne 14) 3 0 0 0 0 := rfl
theorem f133_4 : FF 133 4 (.new 325) 3 1 0 9 1154 := rfl
theorem f133_7 : FF 133 7 (.dup) 1 0 0 0 0 := rfl
theorem f133_8 : FF 133 8 (.ldc_w 327) 3 28 0 0 1163 := rfl
theorem f133_11 : FF 133 11 (.invokespecial 329) 3 0 0 10 1164 := rfl
theorem f133_14 : FF 133 14 (.athrow) 1 0 0 0 0 := rfl
theorem f133_15 : FF 133 15 (.return_) 1 0 0 0 0 := rfl
theorem f134_0 : FF 134 0 (.iload_n 0) 1 0 0 0 0 := rfl
theorem f134_1 : FF 134 1 (.ifCond .ne 14) 3 0 0 0 0 := rfl
theorem f134_4 : FF 134 4 (.new 330) 3 2 0 9 1216 := rfl
theorem f134_7 : FF 134 7 (.dup) 1 0 0 0 0 := rfl
theorem f134_8 : FF 134 8 (.ldc_w 332) 3 29 0 0 1225 := rfl
theorem f134_11 : FF 134 11 (.invokespecial 334) 3 0 0 10 1226 := rfl
theorem f134_14 : FF 134 14 (.athrow) 1 0 0 0 0 := rfl
theorem f134_15 : FF 134 15 (.return_) 1 0 0 0 0 := rfl
theorem f135_0 : FF 135 0 (.iload_n 0) 1 0 0 0 0 := rfl
theorem f135_1 : FF 135 1 (.ifCond .ne 14) 3 0 0 0 0 := rfl
theorem f135_4 : FF 135 4 (.new 335) 3 3 0 9 1252 := rfl
theorem f135_7 : FF 135 7 (.dup) 1 0 0 0 0 := rfl
theorem f135_8 : FF 135 8 (.ldc_w 337) 3 30 0 0 1261 := rfl
theorem f135_11 : FF 135 11 (.invokespecial 339) 3 0 0 10 1262 := rfl
theorem f135_14 : FF 135 14 (.athrow) 1 0 0 0 0 := rfl
theorem f135_15 : FF 135 15 (.return_) 1 0 0 0 0 := rfl
theorem f136_0 : FF 136 0 (.iload_n 1) 1 0 0 0 0 := rfl
theorem f136_1 : FF 136 1 (.tableswitch 90 0 4 #[35, 46, 57, 68, 79]) 35 0 0 0 0 := rfl
theorem f136_36 : FF 136 36 (.iload_n 0) 1 0 0 0 0 := rfl
theorem f136_37 : FF 136 37 (.iload_n 2) 1 0 0 0 0 := rfl
theorem f136_38 : FF 136 38 (.if_icmp .ge 7) 3 0 0 0 0 := rfl
theorem f136_41 : FF 136 41 (.iconst 1) 1 0 0 0 0 := rfl
theorem f136_42 : FF 136 42 (.goto 4) 3 0 0 0 0 := rfl
theorem f136_45 : FF 136 45 (.iconst 0) 1 0 0 0 0 := rfl
theorem f136_46 : FF 136 46 (.ireturn) 1 0 0 0 0 := rfl
theorem f136_47 : FF 136 47 (.iload_n 0) 1 0 0 0 0 := rfl
theorem f136_48 : FF 136 48 (.iload_n 2) 1 0 0 0 0 := rfl
theorem f136_49 : FF 136 49 (.if_icmp .gt 7) 3 0 0 0 0 := rfl
theorem f136_52 : FF 136 52 (.iconst 1) 1 0 0 0 0 := rfl
theorem f136_53 : FF 136 53 (.goto 4) 3 0 0 0 0 := rfl
theorem f136_56 : FF 136 56 (.iconst 0) 1 0 0 0 0 := rfl
theorem f136_57 : FF 136 57 (.ireturn) 1 0 0 0 0 := rfl
theorem f136_58 : FF 136 58 (.iload_n 0) 1 0 0 0 0 := rfl
theorem f136_59 : FF 136 59 (.iload_n 2) 1 0 0 0 0 := rfl
theorem f136_60 : FF 136 60 (.if_icmp .ne 7) 3 0 0 0 0 := rfl
theorem f136_63 : FF 136 63 (.iconst 1) 1 0 0 0 0 := rfl
theorem f136_64 : FF 136 64 (.goto 4) 3 0 0 0 0 := rfl
theorem f136_67 : FF 136 67 (.iconst 0) 1 0 0 0 0 := rfl
theorem f136_68 : FF 136 68 (.ireturn) 1 0 0 0 0 := rfl
theorem f136_69 : FF 136 69 (.iload_n 0) 1 0 0 0 0 := rfl
theorem f136_70 : FF 136 70 (.iload_n 2) 1 0 0 0 0 := rfl
theorem f136_71 : FF 136 71 (.if_icmp .eq 7) 3 0 0 0 0 := rfl
theorem f136_74 : FF 136 74 (.iconst 1) 1 0 0 0 0 := rfl
theorem f136_75 : FF 136 75 (.goto 4) 3 0 0 0 0 := rfl
theorem f136_78 : FF 136 78 (.iconst 0) 1 0 0 0 0 := rfl
theorem f136_79 : FF 136 79 (.ireturn) 1 0 0 0 0 := rfl
theorem f136_80 : FF 136 80 (.iload_n 0) 1 0 0 0 0 := rfl
theorem f136_81 : FF 136 81 (.iload_n 2) 1 0 0 0 0 := rfl
theorem f136_82 : FF 136 82 (.if_icmp .lt 7) 3 0 0 0 0 := rfl
theorem f136_85 : FF 136 85 (.iconst 1) 1 0 0 0 0 := rfl
theorem f136_86 : FF 136 86 (.goto 4) 3 0 0 0 0 := rfl
theorem f136_89 : FF 136 89 (.iconst 0) 1 0 0 0 0 := rfl
theorem f136_90 : FF 136 90 (.ireturn) 1 0 0 0 0 := rfl
theorem f136_91 : FF 136 91 (.iload_n 0) 1 0 0 0 0 := rfl
theorem f136_92 : FF 136 92 (.iload_n 2) 1 0 0 0 0 := rfl
theorem f136_93 : FF 136 93 (.if_icmp .le 7) 3 0 0 0 0 := rfl
theorem f136_96 : FF 136 96 (.iconst 1) 1 0 0 0 0 := rfl
theorem f136_97 : FF 136 97 (.goto 4) 3 0 0 0 0 := rfl
theorem f136_100 : FF 136 100 (.iconst 0) 1 0 0 0 0 := rfl
theorem f136_101 : FF 136 101 (.ireturn) 1 0 0 0 0 := rfl
theorem f137_0 : FF 137 0 (.aload_n 0) 1 0 0 0 0 := rfl
theorem f137_1 : FF 137 1 (.aload_n 0) 1 0 0 0 0 := rfl
theorem f137_2 : FF 137 2 (.getfield 10) 3 11 0 1 617 := rfl
theorem f137_5 : FF 137 5 (.getfield 340) 3 3 6 0 52 := rfl
theorem f137_8 : FF 137 8 (.putfield 68) 3 11 11 0 628 := rfl
theorem f137_11 : FF 137 11 (.aload_n 0) 1 0 0 0 0 := rfl
theorem f137_12 : FF 137 12 (.aload_n 0) 1 0 0 0 0 := rfl
theorem f137_13 : FF 137 13 (.getfield 10) 3 11 0 1 617 := rfl
theorem f137_16 : FF 137 16 (.getfield 343) 3 3 7 0 54 := rfl
theorem f137_19 : FF 137 19 (.putfield 72) 3 11 12 0 629 := rfl
theorem f137_22 : FF 137 22 (.aload_n 0) 1 0 0 0 0 := rfl
theorem f137_23 : FF 137 23 (.getfield 10) 3 11 0 1 617 := rfl
theorem f137_26 : FF 137 26 (.iconst 0) 1 0 0 0 0 := rfl
theorem f137_27 : FF 137 27 (.putfield 91) 3 3 1 0 43 := rfl
theorem f137_30 : FF 137 30 (.return_) 1 0 0 0 0 := rfl
theorem f138_0 : FF 138 0 (.aload_n 0) 1 0 0 0 0 := rfl
theorem f138_1 : FF 138 1 (.getfield 36) 3 11 4 1 621 := rfl
theorem f138_4 : FF 138 4 (.aload_n 0) 1 0 0 0 0 := rfl
theorem f138_5 : FF 138 5 (.getfield 26) 3 11 2 1 619 := rfl
theorem f138_8 : FF 138 8 (.invokevirtual 346) 3 15 1 0 713 := rfl
theorem f138_11 : FF 138 11 (.aload_n 0) 1 0 0 0 0 := rfl
theorem f138_12 : FF 138 12 (.getfield 50) 3 11 6 1 623 := rfl
theorem f138_15 : FF 138 15 (.iconst 0) 1 0 0 0 0 := rfl
theorem f138_16 : FF 138 16 (.putfield 112) 3 8 0 2 253 := rfl
theorem f138_19 : FF 138 19 (.return_) 1 0 0 0 0 := rfl
theorem f139_0 : FF 139 0 (.aload_n 0) 1 0 0 0 0 := rfl
theorem f139_1 : FF 139 1 (.getfield 50) 3 11 6 1 623 := rfl
theorem f139_4 : FF 139 4 (.getfield 112) 3 8 0 2 253 := rfl
theorem f139_7 : FF 139 7 (.ifCond .ne 36) 3 0 0 0 0 := rfl
theorem f139_10 : FF 139 10 (.aload_n 0) 1 0 0 0 0 := rfl
theorem f139_11 : FF 139 11 (.getfield 50) 3 11 6 1 623 := rfl
theorem f139_14 : FF 139 14 (.aload_n 0) 1 0 0 0 0 := rfl
theorem f139_15 : FF 139 15 (.getfield 61) 3 11 8 1 625 := rfl
theorem f139_18 : FF 139 18 (.aload_n 0) 1 0 0 0 0 := rfl
theorem f139_19 : FF 139 19 (.getfield 26) 3 11 2 1 619 := rfl
theorem f139_22 : FF 139 22 (.getfield 142) 3 9 1 1 185 := rfl
theorem f139_25 : FF 139 25 (.aload_n 0) 1 0 0 0 0 := rfl
theorem f139_26 : FF 139 26 (.getfield 26) 3 11 2 1 619 := rfl
theorem f139_29 : FF 139 29 (.getfield 157) 3 9 0 1 183 := rfl
theorem f139_32 : FF 139 32 (.invokevirtual 349) 3 60 3 0 864 := rfl
theorem f139_35 : FF 139 35 (.aload_n 0) 1 0 0 0 0 := rfl
theorem f139_36 : FF 139 36 (.getfield 50) 3 11 6 1 623 := rfl
theorem f139_39 : FF 139 39 (.iconst 1) 1 0 0 0 0 := rfl
theorem f139_40 : FF 139 40 (.putfield 112) 3 8 0 2 253 := rfl
theorem f139_43 : FF 139 43 (.return_) 1 0 0 0 0 := rfl
theorem f140_0 : FF 140 0 (.aload_n 0) 1 0 0 0 0 := rfl
theorem f140_1 : FF 140 1 (.getfield 43) 3 11 5 1 622 := rfl
theorem f140_4 : FF 140 4 (.aload_n 0) 1 0 0 0 0 := rfl
theorem f140_5 : FF 140 5 (.getfield 61) 3 11 8 1 625 := rfl
theorem f140_8 : FF 140 8 (.aload_n 0) 1 0 0 0 0 := rfl
theorem f140_9 : FF 140 9 (.getfield 26) 3 11 2 1 619 := rfl
theorem f140_12 : FF 140 12 (.getfield 142) 3 9 1 1 185 := rfl
theorem f140_15 : FF 140 15 (.aload_n 0) 1 0 0 0 0 := rfl
theorem f140_16 : FF 140 16 (.getfield 26) 3 11 2 1 619 := rfl
theorem f140_19 : FF 140 19 (.getfield 157) 3 9 0 1 183 := rfl
theorem f140_22 : FF 140 22 (.iload_n 1) 1 0 0 0 0 := rfl
theorem f140_23 : FF 140 23 (.invokevirtual 193) 3 69 4 0 734 := rfl
theorem f140_26 : FF 140 26 (.aload_n 0) 1 0 0 0 0 := rfl
theorem f140_27 : FF 140 27 (.getfield 43) 3 11 5 1 622 := rfl
theorem f140_30 : FF 140 30 (.getfield 197) 3 10 0 0 225 := rfl
theorem f140_33 : FF 140 33 (.ifCond .ne 50) 3 0 0 0 0 := rfl
theorem f140_36 : FF 140 36 (.aload_n 0) 1 0 0 0 0 := rfl
theorem f140_37 : FF 140 37 (.getfield 26) 3 11 2 1 619 := rfl
theorem f140_40 : FF 140 40 (.getfield 157) 3 9 0 1 183 := rfl
theorem f140_43 : FF 140 43 (.aload_n 0) 1 0 0 0 0 := rfl
theorem f140_44 : FF 140 44 (.getfield 43) 3 11 5 1 622 := rfl
theorem f140_47 : FF 140 47 (.getfield 353) 3 10 3 1 233 := rfl
theorem f140_50 : FF 140 50 (.invokevirtual 356) 3 1 1 0 753 := rfl
theorem f140_53 : FF 140 53 (.aload_n 0) 1 0 0 0 0 := rfl
theorem f140_54 : FF 140 54 (.getfield 26) 3 11 2 1 619 := rfl
theorem f140_57 : FF 140 57 (.getfield 206) 3 9 2 1 187 := rfl
theorem f140_60 : FF 140 60 (.aload_n 0) 1 0 0 0 0 := rfl
theorem f140_61 : FF 140 61 (.getfield 43) 3 11 5 1 622 := rfl
theorem f140_64 : FF 140 64 (.getfield 200) 3 10 1 0 228 := rfl
theorem f140_67 : FF 140 67 (.aload_n 0) 1 0 0 0 0 := rfl
theorem f140_68 : FF 140 68 (.getfield 26) 3 11 2 1 619 := rfl
theorem f140_71 : FF 140 71 (.getfield 157) 3 9 0 1 183 := rfl
theorem f140_74 : FF 140 74 (.getfield 161) 3 0 0 0 112 := rfl
theorem f140_77 : FF 140 77 (.invokevirtual 359) 3 6 2 0 754 := rfl
theorem f140_80 : FF 140 80 (.goto 20) 3 0 0 0 0 := rfl
theorem f140_83 : FF 140 83 (.aload_n 0) 1 0 0 0 0 := rfl
theorem f140_84 : FF 140 84 (.getfield 26) 3 11 2 1 619 := rfl
theorem f140_87 : FF 140 87 (.getfield 206) 3 9 2 1 187 := rfl
theorem f140_90 : FF 140 90 (.aload_n 0) 1 0 0 0 0 := rfl
theorem f140_91 : FF 140 91 (.getfield 43) 3 11 5 1 622 := rfl
theorem f140_94 : FF 140 94 (.getfield 197) 3 10 0 0 225 := rfl
theorem f140_97 : FF 140 97 (.invokevirtual 362) 3 7 1 0 758 := rfl
theorem f140_100 : FF 140 100 (.aload_n 0) 1 0 0 0 0 := rfl
theorem f140_101 : FF 140 101 (.getfield 43) 3 11 5 1 622 := rfl
theorem f140_104 : FF 140 104 (.getfield 197) 3 10 0 0 225 := rfl
theorem f140_107 : FF 140 107 (.ireturn) 1 0 0 0 0 := rfl
theorem f141_0 : FF 141 0 (.aload_n 0) 1 0 0 0 0 := rfl
theorem f141_1 : FF 141 1 (.getfield 43) 3 11 5 1 622 := rfl
theorem f141_4 : FF 141 4 (.getfield 353) 3 10 3 1 233 := rfl
theorem f141_7 : FF 141 7 (.aload_n 0) 1 0 0 0 0 := rfl
theorem f141_8 : FF 141 8 (.getfield 26) 3 11 2 1 619 := rfl
theorem f141_11 : FF 141 11 (.getfield 157) 3 9 0 1 183 := rfl
theorem f141_14 : FF 141 14 (.invokevirtual 356) 3 1 1 0 753 := rfl
theorem f141_17 : FF 141 17 (.aload_n 0) 1 0 0 0 0 := rfl
theorem f141_18 : FF 141 18 (.getfield 43) 3 11 5 1 622 := rfl
theorem f141_21 : FF 141 21 (.getfield 353) 3 10 3 1 233 := rfl
theorem f141_24 : FF 141 24 (.getfield 166) 3 0 1 1 117 := rfl
theorem f141_27 : FF 141 27 (.iload_n 1) 1 0 0 0 0 := rfl
theorem f141_28 : FF 141 28 (.iload_n 2) 1 0 0 0 0 := rfl
theorem f141_29 : FF 141 29 (.iastore) 1 0 0 0 0 := rfl
theorem f141_30 : FF 141 30 (.aload_n 0) 1 0 0 0 0 := rfl
theorem f141_31 : FF 141 31 (.getfield 26) 3 11 2 1 619 := rfl
theorem f141_34 : FF 141 34 (.getfield 142) 3 9 1 1 185 := rfl
theorem f141_37 : FF 141 37 (.aload_n 0) 1 0 0 0 0 := rfl
theorem f141_38 : FF 141 38 (.getfield 43) 3 11 5 1 622 := rfl
theorem f141_41 : FF 141 41 (.getfield 353) 3 10 3 1 233 := rfl
theorem f141_44 : FF 141 44 (.invokevirtual 264) 3 40 1 0 766 := rfl
theorem f141_47 : FF 141 47 (.iconst (-1)) 1 0 0 0 0 := rfl
theorem f141_48 : FF 141 48 (.if_icmp .ne 7) 3 0 0 0 0 := rfl
theorem f141_51 : FF 141 51 (.iconst 1) 1 0 0 0 0 := rfl
theorem f141_52 : FF 141 52 (.goto 4) 3 0 0 0 0 := rfl
theorem f141_55 : FF 141 55 (.iconst 0) 1 0 0 0 0 := rfl
theorem f141_56 : FF 141 56 (.ireturn) 1 0 0 0 0 := rfl
theorem f142_0 : FF 142 0 (.aload_n 0) 1 0 0 0 0 := rfl
theorem f142_1 : FF 142 1 (.getfield 26) 3 11 2 1 619 := rfl
theorem f142_4 : FF 142 4 (.getfield 157) 3 9 0 1 183 := rfl
theorem f142_7 : FF 142 7 (.aload_n 0) 1 0 0 0 0 := rfl
theorem f142_8 : FF 142 8 (.getfield 61) 3 11 8 1 625 := rfl
theorem f142_11 : FF 142 11 (.getfield 169) 3 6 3 1 341 := rfl
theorem f142_14 : FF 142 14 (.invokevirtual 356) 3 1 1 0 753 := rfl
theorem f142_17 : FF 142 17 (.aload_n 0) 1 0 0 0 0 := rfl
theorem f142_18 : FF 142 18 (.getfield 26) 3 11 2 1 619 := rfl
theorem f142_21 : FF 142 21 (.getfield 206) 3 9 2 1 187 := rfl
theorem f142_24 : FF 142 24 (.iconst 0) 1 0 0 0 0 := rfl
theorem f142_25 : FF 142 25 (.putfield 238) 3 1 6 0 166 := rfl
theorem f142_28 : FF 142 28 (.return_) 1 0 0 0 0 := rfl
theorem f143_0 : FF 143 0 (.aload_n 0) 1 0 0 0 0 := rfl
theorem f143_1 : FF 143 1 (.getfield 19) 3 11 1 1 618 := rfl
theorem f143_4 : FF 143 4 (.getfield 365) 3 7 2 1 84 := rfl
theorem f143_7 : FF 143 7 (.iload_n 1) 1 0 0 0 0 := rfl
theorem f143_8 : FF 143 8 (.iaload) 1 0 0 0 0 := rfl
theorem f143_9 : FF 143 9 (.istore_n 2) 1 0 0 0 0 := rfl
theorem f143_10 : FF 143 10 (.aload_n 0) 1 0 0 0 0 := rfl
theorem f143_11 : FF 143 11 (.getfield 19) 3 11 1 1 618 := rfl
theorem f143_14 : FF 143 14 (.getfield 368) 3 7 1 1 82 := rfl
theorem f143_17 : FF 143 17 (.iload_n 1) 1 0 0 0 0 := rfl
theorem f143_18 : FF 143 18 (.iaload) 1 0 0 0 0 := rfl
theorem f143_19 : FF 143 19 (.tableswitch 81 0 2 #[25, 33, 75]) 25 0 0 0 0 := rfl
theorem f143_44 : FF 143 44 (.aload_n 0) 1 0 0 0 0 := rfl
theorem f143_45 : FF 143 45 (.iload_n 2) 1 0 0 0 0 := rfl
theorem f143_46 : FF 143 46 (.invokevirtual 276) 3 140 1 0 730 := rfl
theorem f143_49 : FF 143 49 (.pop) 1 0 0 0 0 := rfl
theorem f143_50 : FF 143 50 (.iconst 1) 1 0 0 0 0 := rfl
theorem f143_51 : FF 143 51 (.ireturn) 1 0 0 0 0 := rfl
theorem f143_52 : FF 143 52 (.aload_n 0) 1 0 0 0 0 := rfl
theorem f143_53 : FF 143 53 (.iload_n 2) 1 0 0 0 0 := rfl
theorem f143_54 : FF 143 54 (.aload_n 0) 1 0 0 0 0 := rfl
theorem f143_55 : FF 143 55 (.getfield 19) 3 11 1 1 618 := rfl
theorem f143_58 : FF 143 58 (.getfield 371) 3 7 3 1 86 := rfl
theorem f143_61 : FF 143 61 (.iload_n 1) 1 0 0 0 0 := rfl
theorem f143_62 : FF 143 62 (.iaload) 1 0 0 0 0 := rfl
theorem f143_63 : FF 143 63 (.invokevirtual 279) 3 141 2 0 762 := rfl
theorem f143_66 : FF 143 66 (.ifCond .ne 5) 3 0 0 0 0 := rfl
theorem f143_69 : FF 143 69 (.iconst 0) 1 0 0 0 0 := rfl
theorem f143_70 : FF 143 70 (.ireturn) 1 0 0 0 0 := rfl
theorem f143_71 : FF 143 71 (.aload_n 0) 1 0 0 0 0 := rfl
theorem f143_72 : FF 143 72 (.getfield 26) 3 11 2 1 619 := rfl
theorem f143_75 : FF 143 75 (.getfield 157) 3 9 0 1 183 := rfl
theorem f143_78 : FF 143 78 (.getfield 166) 3 0 1 1 117 := rfl
theorem f143_81 : FF 143 81 (.iload_n 2) 1 0 0 0 0 := rfl
theorem f143_82 : FF 143 82 (.aload_n 0) 1 0 0 0 0 := rfl
theorem f143_83 : FF 143 83 (.getfield 19) 3 11 1 1 618 := rfl
theorem f143_86 : FF 143 86 (.getfield 371) 3 7 3 1 86 := rfl
theorem f143_89 : FF 143 89 (.iload_n 1) 1 0 0 0 0 := rfl
theorem f143_90 : FF 143 90 (.iaload) 1 0 0 0 0 := rfl
theorem f143_91 : FF 143 91 (.iastore) 1 0 0 0 0 := rfl
theorem f143_92 : FF 143 92 (.iconst 1) 1 0 0 0 0 := rfl
theorem f143_93 : FF 143 93 (.ireturn) 1 0 0 0 0 := rfl
theorem f143_94 : FF 143 94 (.aload_n 0) 1 0 0 0 0 := rfl
theorem f143_95 : FF 143 95 (.invokevirtual 286) 3 142 0 0 767 := rfl
theorem f143_98 : FF 143 98 (.iconst 1) 1 0 0 0 0 := rfl
theorem f143_99 : FF 143 99 (.ireturn) 1 0 0 0 0 := rfl
theorem f143_100 : FF 143 100 (.aload_n 0) 1 0 0 0 0 := rfl
theorem f143_101 : FF 143 101 (.getfield 26) 3 11 2 1 619 := rfl
theorem f143_104 : FF 143 104 (.getfield 206) 3 9 2 1 187 := rfl
theorem f143_107 : FF 143 107 (.aload_n 0) 1 0 0 0 0 := rfl
theorem f143_108 : FF 143 108 (.getfield 26) 3 11 2 1 619 := rfl
theorem f143_111 : FF 143 111 (.getfield 157) 3 9 0 1 183 := rfl
theorem f143_114 : FF 143 114 (.getfield 161) 3 0 0 0 112 := rfl
theorem f143_117 : FF 143 117 (.invokevirtual 289) 3 5 1 0 771 := rfl
theorem f143_120 : FF 143 120 (.iconst 1) 1 0 0 0 0 := rfl
theorem f143_121 : FF 143 121 (.ireturn) 1 0 0 0 0 := rfl
theorem f144_0 : FF 144 0 (.iconst 0) 1 0 0 0 0 := rfl
theorem f144_1 : FF 144 1 (.istore_n 3) 1 0 0 0 0 := rfl
theorem f144_2 : FF 144 2 (.iload_n 3) 1 0 0 0 0 := rfl
theorem f144_3 : FF 144 3 (.aload_n 1) 1 0 0 0 0 := rfl
theorem f144_4 : FF 144 4 (.getfield 374) 3 5 1 1 314 := rfl
theorem f144_7 : FF 144 7 (.iload_n 2) 1 0 0 0 0 := rfl
theorem f144_8 : FF 144 8 (.iaload) 1 0 0 0 0 := rfl
theorem f144_9 : FF 144 9 (.if_icmp .ge 21) 3 0 0 0 0 := rfl
theorem f144_12 : FF 144 12 (.aload_n 0) 1 0 0 0 0 := rfl
theorem f144_13 : FF 144 13 (.aload_n 1) 1 0 0 0 0 := rfl
theorem f144_14 : FF 144 14 (.getfield 377) 3 5 0 1 312 := rfl
theorem f144_17 : FF 144 17 (.iload_n 2) 1 0 0 0 0 := rfl
theorem f144_18 : FF 144 18 (.aaload) 1 0 0 0 0 := rfl
theorem f144_19 : FF 144 19 (.iload_n 3) 1 0 0 0 0 := rfl
theorem f144_20 : FF 144 20 (.iaload) 1 0 0 0 0 := rfl
theorem f144_21 : FF 144 21 (.invokevirtual 313) 3 145 1 0 933 := rfl
theorem f144_24 : FF 144 24 (.iinc 3 1) 3 0 0 0 0 := rfl
theorem f144_27 : FF 144 27 (.goto (-25)) 3 0 0 0 0 := rfl
theorem f144_30 : FF 144 30 (.return_) 1 0 0 0 0 := rfl
theorem f145_0 : FF 145 0 (.aload_n 0) 1 0 0 0 0 := rfl
theorem f145_1 : FF 145 1 (.getfield 306) 3 11 10 0 627 := rfl
theorem f145_4 : FF 145 4 (.bipush 40) 2 0 0 0 0 := rfl
theorem f145_6 : FF 145 6 (.if_icmp .ge 23) 3 0 0 0 0 := rfl
theorem f145_9 : FF 145 9 (.aload_n 0) 1 0 0 0 0 := rfl
theorem f145_10 : FF 145 10 (.getfield 54) 3 11 7 1 624 := rfl
theorem f145_13 : FF 145 13 (.aload_n 0) 1 0 0 0 0 := rfl
theorem f145_14 : FF 145 14 (.getfield 306) 3 11 10 0 627 := rfl
theorem f145_17 : FF 145 17 (.iload_n 1) 1 0 0 0 0 := rfl
theorem f145_18 : FF 145 18 (.iastore) 1 0 0 0 0 := rfl
theorem f145_19 : FF 145 19 (.aload_n 0) 1 0 0 0 0 := rfl
theorem f145_20 : FF 145 20 (.dup) 1 0 0 0 0 := rfl
theorem f145_21 : FF 145 21 (.getfield 306) 3 11 10 0 627 := rfl
theorem f145_24 : FF 145 24 (.iconst 1) 1 0 0 0 0 := rfl
theorem f145_25 : FF 145 25 (.iadd) 1 0 0 0 0 := rfl
theorem f145_26 : FF 145 26 (.putfield 306) 3 11 10 0 627 := rfl
theorem f145_29 : FF 145 29 (.return_) 1 0 0 0 0 := rfl
theorem en1 (a0 a1 : AV) : entryL 1 [a0, a1] = [a0, a1] := rfl
theorem pv1 (v : AV) (st : List AV) : pushV 1 v st = st := rfl
theorem en2 (a0 : AV) : entryL 2 [a0] = [a0] := rfl
theorem pv2 (v : AV) (st : List AV) : pushV 2 v st = v :: st := rfl
theorem en3 (a0 a1 : AV) : entryL 3 [a0, a1] = [a0, a1] := rfl
theorem pv3 (v : AV) (st : List AV) : pushV 3 v st = st := rfl
theorem en5 (a0 a1 : AV) : entryL 5 [a0, a1] = [a0, a1] := rfl
theorem pv5 (v : AV) (st : List AV) : pushV 5 v st = st := rfl
theorem en6 (a0 a1 a2 : AV) : entryL 6 [a0, a1, a2] = [a0, a1, a2, AU] := rfl
theorem pv6 (v : AV) (st : List AV) : pushV 6 v st = st := rfl
theorem en7 (a0 a1 : AV) : entryL 7 [a0, a1] = [a0, a1] := rfl
theorem pv7 (v : AV) (st : List AV) : pushV 7 v st = st := rfl
theorem en8 (a0 a1 : AV) : entryL 8 [a0, a1] = [a0, a1] := rfl
theorem pv8 (v : AV) (st : List AV) : pushV 8 v st = v :: st := rfl
theorem en9 (a0 a1 : AV) : entryL 9 [a0, a1] = [a0, a1, AU, AU] := rfl
theorem pv9 (v : AV) (st : List AV) : pushV 9 v st = v :: st := rfl
theorem en10 (a0 a1 : AV) : entryL 10 [a0, a1] = [a0, a1, AU, AU] := rfl
theorem pv10 (v : AV) (st : List AV) : pushV 10 v st = v :: st := rfl
theorem en11 (a0 : AV) : entryL 11 [a0] = [a0] := rfl
theorem pv11 (v : AV) (st : List AV) : pushV 11 v st = v :: st := rfl
theorem en12 (a0 : AV) : entryL 12 [a0] = [a0, AU, AU, AU, AU, AU] := rfl
theorem pv12 (v : AV) (st : List AV) : pushV 12 v st = v :: st := rfl
theorem en13 (a0 a1 : AV) : entryL 13 [a0, a1] = [a0, a1] := rfl
theorem pv13 (v : AV) (st : List AV) : pushV 13 v st = st := rfl
theorem en15 (a0 a1 : AV) : entryL 15 [a0, a1] = [a0, a1] := rfl
theorem pv15 (v : AV) (st : List AV) : pushV 15 v st = st := rfl
theorem en16 (a0 a1 : AV) : entryL 16 [a0, a1] = [a0, a1] := rfl
theorem pv16 (v : AV) (st : List AV) : pushV 16 v st = st := rfl
theorem en18 (a0 a1 : AV) : entryL 18 [a0, a1] = [a0, a1] := rfl
theorem pv18 (v : AV) (st : List AV) : pushV 18 v st = st := rfl
theorem en19 (a0 a1 : AV) : entryL 19 [a0, a1] = [a0, a1, AU] := rfl
theorem pv19 (v : AV) (st : List AV) : pushV 19 v st = st := rfl
theorem en20 (a0 a1 : AV) : entryL 20 [a0, a1] = [a0, a1] := rfl
theorem pv20 (v : AV) (st : List AV) : pushV 20 v st = st := rfl
theorem en21 (a0 : AV) : entryL 21 [a0] = [a0] := rfl
theorem pv21 (v : AV) (st : List AV) : pushV 21 v st = st := rfl
theorem en22 (a0 : AV) : entryL 22 [a0] = [a0] := rfl
theorem pv22 (v : AV) (st : List AV) : pushV 22 v st = v :: st := rfl
theorem en23 (a0 : AV) : entryL 23 [a0] = [a0] := rfl
theorem pv23 (v : AV) (st : List AV) : pushV 23 v st = v :: st := rfl
theorem en24 (a0 a1 : AV) : entryL 24 [a0, a1] = [a0, a1] := rfl
theorem pv24 (v : AV) (st : List AV) : pushV 24 v st = st := rfl
theorem en25 (a0 : AV) : entryL 25 [a0] = [a0] := rfl
theorem pv25 (v : AV) (st : List AV) : pushV 25 v st = st := rfl
theorem en26 (a0 a1 : AV) : entryL 26 [a0, a1] = [a0, a1, AU] := rfl
theorem pv26 (v : AV) (st : List AV) : pushV 26 v st = v :: st := rfl
theorem en27 (a0 a1 : AV) : entryL 27 [a0, a1] = [a0, a1] := rfl
theorem pv27 (v : AV) (st : List AV) : pushV 27 v st = v :: st := rfl
theorem en28 (a0 a1 : AV) : entryL 28 [a0, a1] = [a0, a1] := rfl
theorem pv28 (v : AV) (st : List AV) : pushV 28 v st = st := rfl
theorem en29 (a0 a1 : AV) : entryL 29 [a0, a1] = [a0, a1] := rfl
theorem pv29 (v : AV) (st : List AV) : pushV 29 v st = st := rfl
theorem en30 (a0 : AV) : entryL 30 [a0] = [a0] := rfl
theorem pv30 (v : AV) (st : List AV) : pushV 30 v st = st := rfl
theorem en31 (a0 : AV) : entryL 31 [a0] = [a0] := rfl
theorem pv31 (v : AV) (st : List AV) : pushV 31 v st = v :: st := rfl
theorem en32 (a0 a1 : AV) : entryL 32 [a0, a1] = [a0, a1] := rfl
theorem pv32 (v : AV) (st : List AV) : pushV 32 v st = st := rfl
theorem en33 (a0 a1 : AV) : entryL 33 [a0, a1] = [a0, a1, AU] := rfl
theorem pv33 (v : AV) (st : List AV) : pushV 33 v st = v :: st := rfl
theorem en34 (a0 : AV) : entryL 34 [a0] = [a0, AU] := rfl
theorem pv34 (v : AV) (st : List AV) : pushV 34 v st = v :: st := rfl
theorem en35 (a0 : AV) : entryL 35 [a0] = [a0] := rfl
theorem pv35 (v : AV) (st : List AV) : pushV 35 v st = v :: st := rfl
theorem en36 (a0 : AV) : entryL 36 [a0] = [a0] := rfl
theorem pv36 (v : AV) (st : List AV) : pushV 36 v st = v :: st := rfl
theorem en38 (a0 a1 a2 a3 a4 : AV) : entryL 38 [a0, a1, a2, a3, a4] = [a0, a1, a2, a3, a4] := rfl
theorem pv38 (v : AV) (st : List AV) : pushV 38 v st = st := rfl
theorem en39 (a0 a1 a2 : AV) : entryL 39 [a0, a1, a2] = [a0, a1, a2] := rfl
theorem pv39 (v : AV) (st : List AV) : pushV 39 v st = v :: st := rfl
theorem en40 (a0 a1 : AV) : entryL 40 [a0, a1] = [a0, a1, AU] := rfl
theorem pv40 (v : AV) (st : List AV) : pushV 40 v st = v :: st := rfl
theorem en41 (a0 a1 : AV) : entryL 41 [a0, a1] = [a0, a1] := rfl
theorem pv41 (v : AV) (st : List AV) : pushV 41 v st = st := rfl
theorem en43 (a0 a1 a2 : AV) : entryL 43 [a0, a1, a2] = [a0, a1, a2] := rfl
theorem pv43 (v : AV) (st : List AV) : pushV 43 v st = v :: st := rfl
theorem en44 (a0 a1 : AV) : entryL 44 [a0, a1] = [a0, a1, AU] := rfl
theorem pv44 (v : AV) (st : List AV) : pushV 44 v st = v :: st := rfl
theorem en45 (a0 a1 : AV) : entryL 45 [a0, a1] = [a0, a1, AU, AU] := rfl
theorem pv45 (v : AV) (st : List AV) : pushV 45 v st = st := rfl
theorem en46 (a0 a1 a2 : AV) : entryL 46 [a0, a1, a2] = [a0, a1, a2, AU] := rfl
theorem pv46 (v : AV) (st : List AV) : pushV 46 v st = v :: st := rfl
theorem en48 (a0 a1 a2 : AV) : entryL 48 [a0, a1, a2] = [a0, a1, a2] := rfl
theorem pv48 (v : AV) (st : List AV) : pushV 48 v st = v :: st := rfl
theorem en49 (a0 a1 : AV) : entryL 49 [a0, a1] = [a0, a1, AU] := rfl
theorem pv49 (v : AV) (st : List AV) : pushV 49 v st = st := rfl
theorem en50 (a0 : AV) : entryL 50 [a0] = [a0] := rfl
theorem pv50 (v : AV) (st : List AV) : pushV 50 v st = st := rfl
theorem en51 (a0 a1 : AV) : entryL 51 [a0, a1] = [a0, a1] := rfl
theorem pv51 (v : AV) (st : List AV) : pushV 51 v st = st := rfl
theorem en52 (a0 a1 : AV) : entryL 52 [a0, a1] = [a0, a1, AU, AU] := rfl
theorem pv52 (v : AV) (st : List AV) : pushV 52 v st = st := rfl
theorem en53 (a0 a1 : AV) : entryL 53 [a0, a1] = [a0, a1, AU] := rfl
theorem pv53 (v : AV) (st : List AV) : pushV 53 v st = st := rfl
theorem en54 (a0 a1 a2 : AV) : entryL 54 [a0, a1, a2] = [a0, a1, a2, AU, AU, AU] := rfl
theorem pv54 (v : AV) (st : List AV) : pushV 54 v st = st := rfl
theorem en56 (a0 a1 a2 : AV) : entryL 56 [a0, a1, a2] = [a0, a1, a2, AU] := rfl
theorem pv56 (v : AV) (st : List AV) : pushV 56 v st = st := rfl
theorem en57 (a0 a1 a2 : AV) : entryL 57 [a0, a1, a2] = [a0, a1, a2, AU, AU] := rfl
theorem pv57 (v : AV) (st : List AV) : pushV 57 v st = st := rfl
theorem en58 (a0 a1 a2 a3 : AV) : entryL 58 [a0, a1, a2, a3] = [a0, a1, a2, a3] := rfl
theorem pv58 (v : AV) (st : List AV) : pushV 58 v st = st := rfl
theorem en60 (a0 a1 a2 a3 : AV) : entryL 60 [a0, a1, a2, a3] = [a0, a1, a2, a3, AU] := rfl
theorem pv60 (v : AV) (st : List AV) : pushV 60 v st = st := rfl
theorem en61 (a0 : AV) : entryL 61 [a0] = [a0, AU] := rfl
theorem pv61 (v : AV) (st : List AV) : pushV 61 v st = st := rfl
theorem en62 (a0 a1 a2 a3 : AV) : entryL 62 [a0, a1, a2, a3] = [a0, a1, a2, a3, AU] := rfl
theorem pv62 (v : AV) (st : List AV) : pushV 62 v st = st := rfl
theorem en63 (a0 a1 a2 a3 : AV) : entryL 63 [a0, a1, a2, a3] = [a0, a1, a2, a3, AU, AU] := rfl
theorem pv63 (v : AV) (st : List AV) : pushV 63 v st = st := rfl
theorem en64 (a0 a1 a2 a3 : AV) : entryL 64 [a0, a1, a2, a3] = [a0, a1, a2, a3, AU, AU, AU, AU, AU] := rfl
theorem pv64 (v : AV) (st : List AV) : pushV 64 v st = v :: st := rfl
theorem en66 (a0 a1 : AV) : entryL 66 [a0, a1] = [a0, a1] := rfl
theorem pv66 (v : AV) (st : List AV) : pushV 66 v st = st := rfl
theorem en67 (a0 a1 : AV) : entryL 67 [a0, a1] = [a0, a1] := rfl
theorem pv67 (v : AV) (st : List AV) : pushV 67 v st = st := rfl
theorem en69 (a0 a1 a2 a3 a4 : AV) : entryL 69 [a0, a1, a2, a3, a4] = [a0, a1, a2, a3, a4] := rfl
theorem pv69 (v : AV) (st : List AV) : pushV 69 v st = st := rfl
theorem en70 (a0 a1 a2 a3 : AV) : entryL 70 [a0, a1, a2, a3] = [a0, a1, a2, a3, AU] := rfl
theorem pv70 (v : AV) (st : List AV) : pushV 70 v st = st := rfl
theorem en71 (a0 a1 : AV) : entryL 71 [a0, a1] = [a0, a1, AU, AU, AU, AU, AU] := rfl
theorem pv71 (v : AV) (st : List AV) : pushV 71 v st = v :: st := rfl
theorem en73 (a0 a1 a2 a3 a4 a5 : AV) : entryL 73 [a0, a1, a2, a3, a4, a5] = [a0, a1, a2, a3, a4, a5] := rfl
theorem pv73 (v : AV) (st : List AV) : pushV 73 v st = v :: st := rfl
theorem en74 (a0 a1 : AV) : entryL 74 [a0, a1] = [a0, a1] := rfl
theorem pv74 (v : AV) (st : List AV) : pushV 74 v st = v :: st := rfl
theorem en75 (a0 : AV) : entryL 75 [a0] = [a0, AU] := rfl
theorem pv75 (v : AV) (st : List AV) : pushV 75 v st = v :: st := rfl
theorem en76 (a0 : AV) : entryL 76 [a0] = [a0, AU] := rfl
theorem pv76 (v : AV) (st : List AV) : pushV 76 v st = v :: st := rfl
theorem en77 (a0 : AV) : entryL 77 [a0] = [a0] := rfl
theorem pv77 (v : AV) (st : List AV) : pushV 77 v st = v :: st := rfl
theorem en78 (a0 : AV) : entryL 78 [a0] = [a0] := rfl
theorem pv78 (v : AV) (st : List AV) : pushV 78 v st = v :: st := rfl
theorem en79 (a0 : AV) : entryL 79 [a0] = [a0] := rfl
theorem pv79 (v : AV) (st : List AV) : pushV 79 v st = v :: st := rfl
theorem en80 (a0 : AV) : entryL 80 [a0] = [a0] := rfl
theorem pv80 (v : AV) (st : List AV) : pushV 80 v st = v :: st := rfl
theorem en81 (a0 : AV) : entryL 81 [a0] = [a0] := rfl
theorem pv81 (v : AV) (st : List AV) : pushV 81 v st = v :: st := rfl
theorem en82 (a0 : AV) : entryL 82 [a0] = [a0] := rfl
theorem pv82 (v : AV) (st : List AV) : pushV 82 v st = v :: st := rfl
theorem en83 (a0 : AV) : entryL 83 [a0] = [a0] := rfl
theorem pv83 (v : AV) (st : List AV) : pushV 83 v st = v :: st := rfl
theorem en84 (a0 a1 a2 : AV) : entryL 84 [a0, a1, a2] = [a0, a1, a2] := rfl
theorem pv84 (v : AV) (st : List AV) : pushV 84 v st = v :: st := rfl
theorem en85 (a0 a1 a2 : AV) : entryL 85 [a0, a1, a2] = [a0, a1, a2] := rfl
theorem pv85 (v : AV) (st : List AV) : pushV 85 v st = v :: st := rfl
theorem en86 (a0 a1 a2 : AV) : entryL 86 [a0, a1, a2] = [a0, a1, a2] := rfl
theorem pv86 (v : AV) (st : List AV) : pushV 86 v st = v :: st := rfl
theorem en87 (a0 : AV) : entryL 87 [a0] = [a0] := rfl
theorem pv87 (v : AV) (st : List AV) : pushV 87 v st = v :: st := rfl
theorem en88 (a0 a1 : AV) : entryL 88 [a0, a1] = [a0, a1] := rfl
theorem pv88 (v : AV) (st : List AV) : pushV 88 v st = v :: st := rfl
theorem en89 (a0 a1 : AV) : entryL 89 [a0, a1] = [a0, a1] := rfl
theorem pv89 (v : AV) (st : List AV) : pushV 89 v st = v :: st := rfl
theorem en90 (a0 a1 : AV) : entryL 90 [a0, a1] = [a0, a1] := rfl
theorem pv90 (v : AV) (st : List AV) : pushV 90 v st = v :: st := rfl
theorem en91 (a0 a1 : AV) : entryL 91 [a0, a1] = [a0, a1] := rfl
theorem pv91 (v : AV) (st : List AV) : pushV 91 v st = v :: st := rfl
theorem en92 (a0 a1 : AV) : entryL 92 [a0, a1] = [a0, a1] := rfl
theorem pv92 (v : AV) (st : List AV) : pushV 92 v st = v :: st := rfl
theorem en93 (a0 a1 : AV) : entryL 93 [a0, a1] = [a0, a1] := rfl
theorem pv93 (v : AV) (st : List AV) : pushV 93 v st = v :: st := rfl
theorem en94 (a0 a1 : AV) : entryL 94 [a0, a1] = [a0, a1] := rfl
theorem pv94 (v : AV) (st : List AV) : pushV 94 v st = v :: st := rfl
theorem en95 (a0 a1 : AV) : entryL 95 [a0, a1] = [a0, a1] := rfl
theorem pv95 (v : AV) (st : List AV) : pushV 95 v st = v :: st := rfl
theorem en96 (a0 a1 : AV) : entryL 96 [a0, a1] = [a0, a1] := rfl
theorem pv96 (v : AV) (st : List AV) : pushV 96 v st = v :: st := rfl
theorem en97 (a0 a1 : AV) : entryL 97 [a0, a1] = [a0, a1] := rfl
theorem pv97 (v : AV) (st : List AV) : pushV 97 v st = v :: st := rfl
theorem en98 (a0 a1 : AV) : entryL 98 [a0, a1] = [a0, a1] := rfl
theorem pv98 (v : AV) (st : List AV) : pushV 98 v st = v :: st := rfl
theorem en99 (a0 a1 : AV) : entryL 99 [a0, a1] = [a0, a1] := rfl
theorem pv99 (v : AV) (st : List AV) : pushV 99 v st = v :: st := rfl
theorem en100 (a0 : AV) : entryL 100 [a0] = [a0, AU] := rfl
theorem pv100 (v : AV) (st : List AV) : pushV 100 v st = v :: st := rfl
theorem en101 (a0 a1 : AV) : entryL 101 [a0, a1] = [a0, a1] := rfl
theorem pv101 (v : AV) (st : List AV) : pushV 101 v st = v :: st := rfl
theorem en102 (a0 a1 : AV) : entryL 102 [a0, a1] = [a0, a1] := rfl
theorem pv102 (v : AV) (st : List AV) : pushV 102 v st = v :: st := rfl
theorem en103 (a0 : AV) : entryL 103 [a0] = [a0] := rfl
theorem pv103 (v : AV) (st : List AV) : pushV 103 v st = v :: st := rfl
theorem en104 (a0 : AV) : entryL 104 [a0] = [a0] := rfl
theorem pv104 (v : AV) (st : List AV) : pushV 104 v st = v :: st := rfl
theorem en105 (a0 a1 : AV) : entryL 105 [a0, a1] = [a0, a1] := rfl
theorem pv105 (v : AV) (st : List AV) : pushV 105 v st = v :: st := rfl
theorem en106 (a0 : AV) : entryL 106 [a0] = [a0, AU] := rfl
theorem pv106 (v : AV) (st : List AV) : pushV 106 v st = v :: st := rfl
theorem en107 (a0 : AV) : entryL 107 [a0] = [a0, AU] := rfl
theorem pv107 (v : AV) (st : List AV) : pushV 107 v st = v :: st := rfl
theorem en108 (a0 : AV) : entryL 108 [a0] = [a0, AU] := rfl
theorem pv108 (v : AV) (st : List AV) : pushV 108 v st = v :: st := rfl
theorem en109 (a0 : AV) : entryL 109 [a0] = [a0, AU, AU] := rfl
theorem pv109 (v : AV) (st : List AV) : pushV 109 v st = v :: st := rfl
theorem en110 (a0 : AV) : entryL 110 [a0] = [a0] := rfl
theorem pv110 (v : AV) (st : List AV) : pushV 110 v st = v :: st := rfl
theorem en111 (a0 a1 : AV) : entryL 111 [a0, a1] = [a0, a1, AU] := rfl
theorem pv111 (v : AV) (st : List AV) : pushV 111 v st = v :: st := rfl
theorem en112 (a0 a1 : AV) : entryL 112 [a0, a1] = [a0, a1] := rfl
theorem pv112 (v : AV) (st : List AV) : pushV 112 v st = v :: st := rfl
theorem en113 (a0 : AV) : entryL 113 [a0] = [a0] := rfl
theorem pv113 (v : AV) (st : List AV) : pushV 113 v st = v :: st := rfl
theorem en114 (a0 a1 : AV) : entryL 114 [a0, a1] = [a0, a1] := rfl
theorem pv114 (v : AV) (st : List AV) : pushV 114 v st = v :: st := rfl
theorem en115 (a0 a1 : AV) : entryL 115 [a0, a1] = [a0, a1] := rfl
theorem pv115 (v : AV) (st : List AV) : pushV 115 v st = v :: st := rfl
theorem en116 (a0 a1 : AV) : entryL 116 [a0, a1] = [a0, a1] := rfl
theorem pv116 (v : AV) (st : List AV) : pushV 116 v st = v :: st := rfl
theorem en117 (a0 a1 : AV) : entryL 117 [a0, a1] = [a0, a1] := rfl
theorem pv117 (v : AV) (st : List AV) : pushV 117 v st = v :: st := rfl
theorem en118 (a0 : AV) : entryL 118 [a0] = [a0] := rfl
theorem pv118 (v : AV) (st : List AV) : pushV 118 v st = v :: st := rfl
theorem en119 (a0 : AV) : entryL 119 [a0] = [a0] := rfl
theorem pv119 (v : AV) (st : List AV) : pushV 119 v st = v :: st := rfl
theorem en120 (a0 : AV) : entryL 120 [a0] = [a0] := rfl
theorem pv120 (v : AV) (st : List AV) : pushV 120 v st = v :: st := rfl
theorem en121 (a0 : AV) : entryL 121 [a0] = [a0, AU, AU, AU] := rfl
theorem pv121 (v : AV) (st : List AV) : pushV 121 v st = v :: st := rfl
theorem en122 (a0 a1 : AV) : entryL 122 [a0, a1] = [a0, a1] := rfl
theorem pv122 (v : AV) (st : List AV) : pushV 122 v st = v :: st := rfl
theorem en123 (a0 a1 a2 : AV) : entryL 123 [a0, a1, a2] = [a0, a1, a2, AU] := rfl
theorem pv123 (v : AV) (st : List AV) : pushV 123 v st = v :: st := rfl
theorem en124 (a0 : AV) : entryL 124 [a0] = [a0, AU] := rfl
theorem pv124 (v : AV) (st : List AV) : pushV 124 v st = v :: st := rfl
theorem en125 (a0 : AV) : entryL 125 [a0] = [a0, AU] := rfl
theorem pv125 (v : AV) (st : List AV) : pushV 125 v st = v :: st := rfl
theorem en126 (a0 a1 a2 a3 : AV) : entryL 126 [a0, a1, a2, a3] = [a0, a1, a2, a3] := rfl
theorem pv126 (v : AV) (st : List AV) : pushV 126 v st = v :: st := rfl
theorem en127 (a0 : AV) : entryL 127 [a0] = [a0] := rfl
theorem pv127 (v : AV) (st : List AV) : pushV 127 v st = v :: st := rfl
theorem en128 (a0 : AV) : entryL 128 [a0] = [a0, AU] := rfl
theorem pv128 (v : AV) (st : List AV) : pushV 128 v st = v :: st := rfl
theorem en129 (a0 a1 : AV) : entryL 129 [a0, a1] = [a0, a1] := rfl
theorem pv129 (v : AV) (st : List AV) : pushV 129 v st = v :: st := rfl
theorem en130 (a0 : AV) : entryL 130 [a0] = [a0] := rfl
theorem pv130 (v : AV) (st : List AV) : pushV 130 v st = v :: st := rfl
theorem en131 (a0 : AV) : entryL 131 [a0] = [a0] := rfl
theorem pv131 (v : AV) (st : List AV) : pushV 131 v st = v :: st := rfl
theorem en132 (a0 a1 : AV) : entryL 132 [a0, a1] = [a0, a1] := rfl
theorem pv132 (v : AV) (st : List AV) : pushV 132 v st = st := rfl
theorem en133 (a0 : AV) : entryL 133 [a0] = [a0] := rfl
theorem pv133 (v : AV) (st : List AV) : pushV 133 v st = st := rfl
theorem en134 (a0 : AV) : entryL 134 [a0] = [a0] := rfl
theorem pv134 (v : AV) (st : List AV) : pushV 134 v st = st := rfl
theorem en135 (a0 : AV) : entryL 135 [a0] = [a0] := rfl
theorem pv135 (v : AV) (st : List AV) : pushV 135 v st = st := rfl
theorem en136 (a0 a1 a2 : AV) : entryL 136 [a0, a1, a2] = [a0, a1, a2] := rfl
theorem pv136 (v : AV) (st : List AV) : pushV 136 v st = v :: st := rfl
theorem en137 (a0 : AV) : entryL 137 [a0] = [a0] := rfl
theorem pv137 (v : AV) (st : List AV) : pushV 137 v st = st := rfl
theorem en138 (a0 : AV) : entryL 138 [a0] = [a0] := rfl
theorem pv138 (v : AV) (st : List AV) : pushV 138 v st = st := rfl
theorem en139 (a0 : AV) : entryL 139 [a0] = [a0] := rfl
theorem pv139 (v : AV) (st : List AV) : pushV 139 v st = st := rfl
theorem en140 (a0 a1 : AV) : entryL 140 [a0, a1] = [a0, a1] := rfl
theorem pv140 (v : AV) (st : List AV) : pushV 140 v st = v :: st := rfl
theorem en141 (a0 a1 a2 : AV) : entryL 141 [a0, a1, a2] = [a0, a1, a2] := rfl
theorem pv141 (v : AV) (st : List AV) : pushV 141 v st = v :: st := rfl
theorem en142 (a0 : AV) : entryL 142 [a0] = [a0] := rfl
theorem pv142 (v : AV) (st : List AV) : pushV 142 v st = st := rfl
theorem en143 (a0 a1 : AV) : entryL 143 [a0, a1] = [a0, a1, AU] := rfl
theorem pv143 (v : AV) (st : List AV) : pushV 143 v st = v :: st := rfl
theorem en144 (a0 a1 a2 : AV) : entryL 144 [a0, a1, a2] = [a0, a1, a2, AU] := rfl
theorem pv144 (v : AV) (st : List AV) : pushV 144 v st = st := rfl
theorem en145 (a0 a1 : AV) : entryL 145 [a0, a1] = [a0, a1] := rfl
theorem pv145 (v : AV) (st : List AV) : pushV 145 v st = st := rfl
