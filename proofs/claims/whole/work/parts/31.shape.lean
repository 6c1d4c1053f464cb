/-! THE OBJECTS after the two constructors and 'new long[1]', by their numbers: 1 the class' object, 268 the reference's; r and d: the class' two Rules (156, 212), which loadMachine exchanges -/
def KB0 : List AKd := [(3, 8, [3, 0, 0, 0, 0, 0, 0, 0]), (20, 700, []), (7, 4, [0, 5, 6, 7]), (20, 30, []), (20, 30, []), (20, 30, []), (9, 3, [9, 11, 16]), (0, 2, [0, 10]), (20, 3, []), (4, 5, [0, 12, 13, 14, 15]), (20, 12, []), (20, 12, []), (20, 12, []), (20, 12, []), (1, 7, [17, 18, 19, 0, 0, 20, 0]), (20, 24, []), (20, 10, []), (20, 5, []), (20, 20, []), (9, 3, [22, 24, 29]), (0, 2, [0, 23]), (20, 3, []), (4, 5, [0, 25, 26, 27, 28]), (20, 12, []), (20, 12, []), (20, 12, []), (20, 12, []), (1, 7, [30, 31, 32, 0, 0, 33, 0]), (20, 24, []), (20, 10, []), (20, 5, []), (20, 20, []), (2, 3, [35, 0, 0]), (23, 8, [36, 49, 62, 75, 88, 101, 114, 127]), (9, 3, [37, 39, 44]), (0, 2, [0, 38]), (20, 3, []), (4, 5, [0, 40, 41, 42, 43]), (20, 12, []), (20, 12, [])]
def KB1 : List AKd := [(20, 12, []), (20, 12, []), (1, 7, [45, 46, 47, 0, 0, 48, 0]), (20, 24, []), (20, 10, []), (20, 5, []), (20, 20, []), (9, 3, [50, 52, 57]), (0, 2, [0, 51]), (20, 3, []), (4, 5, [0, 53, 54, 55, 56]), (20, 12, []), (20, 12, []), (20, 12, []), (20, 12, []), (1, 7, [58, 59, 60, 0, 0, 61, 0]), (20, 24, []), (20, 10, []), (20, 5, []), (20, 20, []), (9, 3, [63, 65, 70]), (0, 2, [0, 64]), (20, 3, []), (4, 5, [0, 66, 67, 68, 69]), (20, 12, []), (20, 12, []), (20, 12, []), (20, 12, []), (1, 7, [71, 72, 73, 0, 0, 74, 0]), (20, 24, []), (20, 10, []), (20, 5, []), (20, 20, []), (9, 3, [76, 78, 83]), (0, 2, [0, 77]), (20, 3, []), (4, 5, [0, 79, 80, 81, 82]), (20, 12, []), (20, 12, []), (20, 12, [])]
def KB2 : List AKd := [(20, 12, []), (1, 7, [84, 85, 86, 0, 0, 87, 0]), (20, 24, []), (20, 10, []), (20, 5, []), (20, 20, []), (9, 3, [89, 91, 96]), (0, 2, [0, 90]), (20, 3, []), (4, 5, [0, 92, 93, 94, 95]), (20, 12, []), (20, 12, []), (20, 12, []), (20, 12, []), (1, 7, [97, 98, 99, 0, 0, 100, 0]), (20, 24, []), (20, 10, []), (20, 5, []), (20, 20, []), (9, 3, [102, 104, 109]), (0, 2, [0, 103]), (20, 3, []), (4, 5, [0, 105, 106, 107, 108]), (20, 12, []), (20, 12, []), (20, 12, []), (20, 12, []), (1, 7, [110, 111, 112, 0, 0, 113, 0]), (20, 24, []), (20, 10, []), (20, 5, []), (20, 20, []), (9, 3, [115, 117, 122]), (0, 2, [0, 116]), (20, 3, []), (4, 5, [0, 118, 119, 120, 121]), (20, 12, []), (20, 12, []), (20, 12, []), (20, 12, [])]
def KB3 : List AKd := [(1, 7, [123, 124, 125, 0, 0, 126, 0]), (20, 24, []), (20, 10, []), (20, 5, []), (20, 20, []), (9, 3, [128, 130, 135]), (0, 2, [0, 129]), (20, 3, []), (4, 5, [0, 131, 132, 133, 134]), (20, 12, []), (20, 12, []), (20, 12, []), (20, 12, []), (1, 7, [136, 137, 138, 0, 0, 139, 0]), (20, 24, []), (20, 10, []), (20, 5, []), (20, 20, []), (10, 4, [0, 0, 0, 141]), (0, 2, [0, 142]), (20, 3, []), (8, 12, [0, 0, 0, 0, 144, 145, 146, 147, 148, 149, 150, 152]), (20, 10, []), (20, 10, []), (21, 24, []), (20, 10000, []), (20, 10000, []), (20, 10000, []), (0, 2, [0, 151]), (20, 3, []), (10, 4, [0, 0, 0, 153]), (0, 2, [0, 154]), (20, 3, []), (20, 40, []), (6, 15, [157, 170, 183, 196, 198, 0, 203, 204, 205, 206, 207, 208, 209, 210, 211]), (5, 3, [158, 169, 0]), (24, 10, [159, 160, 161, 162, 163, 164, 165, 166, 167, 168]), (20, 6, []), (20, 6, []), (20, 6, [])]
def KB4 : List AKd := [(20, 6, []), (20, 6, []), (20, 6, []), (20, 6, []), (20, 6, []), (20, 6, []), (20, 6, []), (20, 10, []), (5, 3, [171, 182, 0]), (24, 10, [172, 173, 174, 175, 176, 177, 178, 179, 180, 181]), (20, 6, []), (20, 6, []), (20, 6, []), (20, 6, []), (20, 6, []), (20, 6, []), (20, 6, []), (20, 6, []), (20, 6, []), (20, 6, []), (20, 10, []), (5, 3, [184, 195, 0]), (24, 10, [185, 186, 187, 188, 189, 190, 191, 192, 193, 194]), (20, 6, []), (20, 6, []), (20, 6, []), (20, 6, []), (20, 6, []), (20, 6, []), (20, 6, []), (20, 6, []), (20, 6, []), (20, 6, []), (20, 10, []), (0, 2, [0, 197]), (20, 3, []), (4, 5, [0, 199, 200, 201, 202]), (20, 12, []), (20, 12, []), (20, 12, [])]
def KB5 : List AKd := [(20, 12, []), (20, 24, []), (20, 24, []), (20, 24, []), (20, 24, []), (20, 24, []), (20, 24, []), (20, 24, []), (20, 24, []), (20, 24, []), (6, 15, [213, 226, 239, 252, 254, 0, 259, 260, 261, 262, 263, 264, 265, 266, 267]), (5, 3, [214, 225, 0]), (24, 10, [215, 216, 217, 218, 219, 220, 221, 222, 223, 224]), (20, 6, []), (20, 6, []), (20, 6, []), (20, 6, []), (20, 6, []), (20, 6, []), (20, 6, []), (20, 6, []), (20, 6, []), (20, 6, []), (20, 10, []), (5, 3, [227, 238, 0]), (24, 10, [228, 229, 230, 231, 232, 233, 234, 235, 236, 237]), (20, 6, []), (20, 6, []), (20, 6, []), (20, 6, []), (20, 6, []), (20, 6, []), (20, 6, []), (20, 6, []), (20, 6, []), (20, 6, []), (20, 10, []), (5, 3, [240, 251, 0]), (24, 10, [241, 242, 243, 244, 245, 246, 247, 248, 249, 250]), (20, 6, [])]
def KB6 : List AKd := [(20, 6, []), (20, 6, []), (20, 6, []), (20, 6, []), (20, 6, []), (20, 6, []), (20, 6, []), (20, 6, []), (20, 6, []), (20, 10, []), (0, 2, [0, 253]), (20, 3, []), (4, 5, [0, 255, 256, 257, 258]), (20, 12, []), (20, 12, []), (20, 12, []), (20, 12, []), (20, 24, []), (20, 24, []), (20, 24, []), (20, 24, []), (20, 24, []), (20, 24, []), (20, 24, []), (20, 24, []), (20, 24, []), (12, 31, [269, 270, 271, 272, 0, 0, 0, 0, 0, 273, 274, 0, 275, 0, 0, 0, 0, 0, 0, 0, 0, 0, 0, 276, 277, 278, 0, 279, 280, 281, 0]), (20, 504, []), (20, 504, []), (20, 504, []), (20, 4032, []), (20, 10000, []), (20, 10000, []), (20, 700, []), (20, 9, []), (20, 31, []), (20, 62, []), (21, 10000, []), (20, 10000, []), (20, 60, [])]
def KB7 : List AKd := [(22, 1, [])]
def KB : List AKd := KB0 ++ (KB1 ++ (KB2 ++ (KB3 ++ (KB4 ++ (KB5 ++ (KB6 ++ (KB7)))))))
def KS (r d : Nat) : List AKd := (11, 14, [2, 4, 8, 21, 34, 140, 143, 155, r, d, 0, 0, 0, 0]) :: KB
theorem kd_1 {r d : Nat} : kdK (KS r d) 1 = some (11, 14, [2, 4, 8, 21, 34, 140, 143, 155, r, d, 0, 0, 0, 0]) := rfl
theorem kd_2 {r d : Nat} : kdK (KS r d) 2 = some (3, 8, [3, 0, 0, 0, 0, 0, 0, 0]) := rfl
theorem kd_3 {r d : Nat} : kdK (KS r d) 3 = some (20, 700, []) := rfl
theorem kd_4 {r d : Nat} : kdK (KS r d) 4 = some (7, 4, [0, 5, 6, 7]) := rfl
theorem kd_5 {r d : Nat} : kdK (KS r d) 5 = some (20, 30, []) := rfl
theorem kd_6 {r d : Nat} : kdK (KS r d) 6 = some (20, 30, []) := rfl
theorem kd_7 {r d : Nat} : kdK (KS r d) 7 = some (20, 30, []) := rfl
theorem kd_8 {r d : Nat} : kdK (KS r d) 8 = some (9, 3, [9, 11, 16]) := rfl
theorem kd_9 {r d : Nat} : kdK (KS r d) 9 = some (0, 2, [0, 10]) := rfl
theorem kd_10 {r d : Nat} : kdK (KS r d) 10 = some (20, 3, []) := rfl
theorem kd_11 {r d : Nat} : kdK (KS r d) 11 = some (4, 5, [0, 12, 13, 14, 15]) := rfl
theorem kd_12 {r d : Nat} : kdK (KS r d) 12 = some (20, 12, []) := rfl
theorem kd_13 {r d : Nat} : kdK (KS r d) 13 = some (20, 12, []) := rfl
theorem kd_14 {r d : Nat} : kdK (KS r d) 14 = some (20, 12, []) := rfl
theorem kd_15 {r d : Nat} : kdK (KS r d) 15 = some (20, 12, []) := rfl
theorem kd_16 {r d : Nat} : kdK (KS r d) 16 = some (1, 7, [17, 18, 19, 0, 0, 20, 0]) := rfl
theorem kd_17 {r d : Nat} : kdK (KS r d) 17 = some (20, 24, []) := rfl
theorem kd_18 {r d : Nat} : kdK (KS r d) 18 = some (20, 10, []) := rfl
theorem kd_19 {r d : Nat} : kdK (KS r d) 19 = some (20, 5, []) := rfl
theorem kd_20 {r d : Nat} : kdK (KS r d) 20 = some (20, 20, []) := rfl
theorem kd_21 {r d : Nat} : kdK (KS r d) 21 = some (9, 3, [22, 24, 29]) := rfl
theorem kd_22 {r d : Nat} : kdK (KS r d) 22 = some (0, 2, [0, 23]) := rfl
theorem kd_23 {r d : Nat} : kdK (KS r d) 23 = some (20, 3, []) := rfl
theorem kd_24 {r d : Nat} : kdK (KS r d) 24 = some (4, 5, [0, 25, 26, 27, 28]) := rfl
theorem kd_25 {r d : Nat} : kdK (KS r d) 25 = some (20, 12, []) := rfl
theorem kd_26 {r d : Nat} : kdK (KS r d) 26 = some (20, 12, []) := rfl
theorem kd_27 {r d : Nat} : kdK (KS r d) 27 = some (20, 12, []) := rfl
theorem kd_28 {r d : Nat} : kdK (KS r d) 28 = some (20, 12, []) := rfl
theorem kd_29 {r d : Nat} : kdK (KS r d) 29 = some (1, 7, [30, 31, 32, 0, 0, 33, 0]) := rfl
theorem kd_30 {r d : Nat} : kdK (KS r d) 30 = some (20, 24, []) := rfl
theorem kd_31 {r d : Nat} : kdK (KS r d) 31 = some (20, 10, []) := rfl
theorem kd_32 {r d : Nat} : kdK (KS r d) 32 = some (20, 5, []) := rfl
theorem kd_33 {r d : Nat} : kdK (KS r d) 33 = some (20, 20, []) := rfl
theorem kd_34 {r d : Nat} : kdK (KS r d) 34 = some (2, 3, [35, 0, 0]) := rfl
theorem kd_35 {r d : Nat} : kdK (KS r d) 35 = some (23, 8, [36, 49, 62, 75, 88, 101, 114, 127]) := rfl
theorem kd_36 {r d : Nat} : kdK (KS r d) 36 = some (9, 3, [37, 39, 44]) := rfl
theorem kd_37 {r d : Nat} : kdK (KS r d) 37 = some (0, 2, [0, 38]) := rfl
theorem kd_38 {r d : Nat} : kdK (KS r d) 38 = some (20, 3, []) := rfl
theorem kd_39 {r d : Nat} : kdK (KS r d) 39 = some (4, 5, [0, 40, 41, 42, 43]) := rfl
theorem kd_40 {r d : Nat} : kdK (KS r d) 40 = some (20, 12, []) := rfl
theorem kd_41 {r d : Nat} : kdK (KS r d) 41 = some (20, 12, []) := rfl
theorem kd_42 {r d : Nat} : kdK (KS r d) 42 = some (20, 12, []) := rfl
theorem kd_43 {r d : Nat} : kdK (KS r d) 43 = some (20, 12, []) := rfl
theorem kd_44 {r d : Nat} : kdK (KS r d) 44 = some (1, 7, [45, 46, 47, 0, 0, 48, 0]) := rfl
theorem kd_45 {r d : Nat} : kdK (KS r d) 45 = some (20, 24, []) := rfl
theorem kd_46 {r d : Nat} : kdK (KS r d) 46 = some (20, 10, []) := rfl
theorem kd_47 {r d : Nat} : kdK (KS r d) 47 = some (20, 5, []) := rfl
theorem kd_48 {r d : Nat} : kdK (KS r d) 48 = some (20, 20, []) := rfl
theorem kd_49 {r d : Nat} : kdK (KS r d) 49 = some (9, 3, [50, 52, 57]) := rfl
theorem kd_50 {r d : Nat} : kdK (KS r d) 50 = some (0, 2, [0, 51]) := rfl
theorem kd_51 {r d : Nat} : kdK (KS r d) 51 = some (20, 3, []) := rfl
theorem kd_52 {r d : Nat} : kdK (KS r d) 52 = some (4, 5, [0, 53, 54, 55, 56]) := rfl
theorem kd_53 {r d : Nat} : kdK (KS r d) 53 = some (20, 12, []) := rfl
theorem kd_54 {r d : Nat} : kdK (KS r d) 54 = some (20, 12, []) := rfl
theorem kd_55 {r d : Nat} : kdK (KS r d) 55 = some (20, 12, []) := rfl
theorem kd_56 {r d : Nat} : kdK (KS r d) 56 = some (20, 12, []) := rfl
theorem kd_57 {r d : Nat} : kdK (KS r d) 57 = some (1, 7, [58, 59, 60, 0, 0, 61, 0]) := rfl
theorem kd_58 {r d : Nat} : kdK (KS r d) 58 = some (20, 24, []) := rfl
theorem kd_59 {r d : Nat} : kdK (KS r d) 59 = some (20, 10, []) := rfl
theorem kd_60 {r d : Nat} : kdK (KS r d) 60 = some (20, 5, []) := rfl
theorem kd_61 {r d : Nat} : kdK (KS r d) 61 = some (20, 20, []) := rfl
theorem kd_62 {r d : Nat} : kdK (KS r d) 62 = some (9, 3, [63, 65, 70]) := rfl
theorem kd_63 {r d : Nat} : kdK (KS r d) 63 = some (0, 2, [0, 64]) := rfl
theorem kd_64 {r d : Nat} : kdK (KS r d) 64 = some (20, 3, []) := rfl
theorem kd_65 {r d : Nat} : kdK (KS r d) 65 = some (4, 5, [0, 66, 67, 68, 69]) := rfl
theorem kd_66 {r d : Nat} : kdK (KS r d) 66 = some (20, 12, []) := rfl
theorem kd_67 {r d : Nat} : kdK (KS r d) 67 = some (20, 12, []) := rfl
theorem kd_68 {r d : Nat} : kdK (KS r d) 68 = some (20, 12, []) := rfl
theorem kd_69 {r d : Nat} : kdK (KS r d) 69 = some (20, 12, []) := rfl
theorem kd_70 {r d : Nat} : kdK (KS r d) 70 = some (1, 7, [71, 72, 73, 0, 0, 74, 0]) := rfl
theorem kd_71 {r d : Nat} : kdK (KS r d) 71 = some (20, 24, []) := rfl
theorem kd_72 {r d : Nat} : kdK (KS r d) 72 = some (20, 10, []) := rfl
theorem kd_73 {r d : Nat} : kdK (KS r d) 73 = some (20, 5, []) := rfl
theorem kd_74 {r d : Nat} : kdK (KS r d) 74 = some (20, 20, []) := rfl
theorem kd_75 {r d : Nat} : kdK (KS r d) 75 = some (9, 3, [76, 78, 83]) := rfl
theorem kd_76 {r d : Nat} : kdK (KS r d) 76 = some (0, 2, [0, 77]) := rfl
theorem kd_77 {r d : Nat} : kdK (KS r d) 77 = some (20, 3, []) := rfl
theorem kd_78 {r d : Nat} : kdK (KS r d) 78 = some (4, 5, [0, 79, 80, 81, 82]) := rfl
theorem kd_79 {r d : Nat} : kdK (KS r d) 79 = some (20, 12, []) := rfl
theorem kd_80 {r d : Nat} : kdK (KS r d) 80 = some (20, 12, []) := rfl
theorem kd_81 {r d : Nat} : kdK (KS r d) 81 = some (20, 12, []) := rfl
theorem kd_82 {r d : Nat} : kdK (KS r d) 82 = some (20, 12, []) := rfl
theorem kd_83 {r d : Nat} : kdK (KS r d) 83 = some (1, 7, [84, 85, 86, 0, 0, 87, 0]) := rfl
theorem kd_84 {r d : Nat} : kdK (KS r d) 84 = some (20, 24, []) := rfl
theorem kd_85 {r d : Nat} : kdK (KS r d) 85 = some (20, 10, []) := rfl
theorem kd_86 {r d : Nat} : kdK (KS r d) 86 = some (20, 5, []) := rfl
theorem kd_87 {r d : Nat} : kdK (KS r d) 87 = some (20, 20, []) := rfl
theorem kd_88 {r d : Nat} : kdK (KS r d) 88 = some (9, 3, [89, 91, 96]) := rfl
theorem kd_89 {r d : Nat} : kdK (KS r d) 89 = some (0, 2, [0, 90]) := rfl
theorem kd_90 {r d : Nat} : kdK (KS r d) 90 = some (20, 3, []) := rfl
theorem kd_91 {r d : Nat} : kdK (KS r d) 91 = some (4, 5, [0, 92, 93, 94, 95]) := rfl
theorem kd_92 {r d : Nat} : kdK (KS r d) 92 = some (20, 12, []) := rfl
theorem kd_93 {r d : Nat} : kdK (KS r d) 93 = some (20, 12, []) := rfl
theorem kd_94 {r d : Nat} : kdK (KS r d) 94 = some (20, 12, []) := rfl
theorem kd_95 {r d : Nat} : kdK (KS r d) 95 = some (20, 12, []) := rfl
theorem kd_96 {r d : Nat} : kdK (KS r d) 96 = some (1, 7, [97, 98, 99, 0, 0, 100, 0]) := rfl
theorem kd_97 {r d : Nat} : kdK (KS r d) 97 = some (20, 24, []) := rfl
theorem kd_98 {r d : Nat} : kdK (KS r d) 98 = some (20, 10, []) := rfl
theorem kd_99 {r d : Nat} : kdK (KS r d) 99 = some (20, 5, []) := rfl
theorem kd_100 {r d : Nat} : kdK (KS r d) 100 = some (20, 20, []) := rfl
theorem kd_101 {r d : Nat} : kdK (KS r d) 101 = some (9, 3, [102, 104, 109]) := rfl
theorem kd_102 {r d : Nat} : kdK (KS r d) 102 = some (0, 2, [0, 103]) := rfl
theorem kd_103 {r d : Nat} : kdK (KS r d) 103 = some (20, 3, []) := rfl
theorem kd_104 {r d : Nat} : kdK (KS r d) 104 = some (4, 5, [0, 105, 106, 107, 108]) := rfl
theorem kd_105 {r d : Nat} : kdK (KS r d) 105 = some (20, 12, []) := rfl
theorem kd_106 {r d : Nat} : kdK (KS r d) 106 = some (20, 12, []) := rfl
theorem kd_107 {r d : Nat} : kdK (KS r d) 107 = some (20, 12, []) := rfl
theorem kd_108 {r d : Nat} : kdK (KS r d) 108 = some (20, 12, []) := rfl
theorem kd_109 {r d : Nat} : kdK (KS r d) 109 = some (1, 7, [110, 111, 112, 0, 0, 113, 0]) := rfl
theorem kd_110 {r d : Nat} : kdK (KS r d) 110 = some (20, 24, []) := rfl
theorem kd_111 {r d : Nat} : kdK (KS r d) 111 = some (20, 10, []) := rfl
theorem kd_112 {r d : Nat} : kdK (KS r d) 112 = some (20, 5, []) := rfl
theorem kd_113 {r d : Nat} : kdK (KS r d) 113 = some (20, 20, []) := rfl
theorem kd_114 {r d : Nat} : kdK (KS r d) 114 = some (9, 3, [115, 117, 122]) := rfl
theorem kd_115 {r d : Nat} : kdK (KS r d) 115 = some (0, 2, [0, 116]) := rfl
theorem kd_116 {r d : Nat} : kdK (KS r d) 116 = some (20, 3, []) := rfl
theorem kd_117 {r d : Nat} : kdK (KS r d) 117 = some (4, 5, [0, 118, 119, 120, 121]) := rfl
theorem kd_118 {r d : Nat} : kdK (KS r d) 118 = some (20, 12, []) := rfl
theorem kd_119 {r d : Nat} : kdK (KS r d) 119 = some (20, 12, []) := rfl
theorem kd_120 {r d : Nat} : kdK (KS r d) 120 = some (20, 12, []) := rfl
theorem kd_121 {r d : Nat} : kdK (KS r d) 121 = some (20, 12, []) := rfl
theorem kd_122 {r d : Nat} : kdK (KS r d) 122 = some (1, 7, [123, 124, 125, 0, 0, 126, 0]) := rfl
theorem kd_123 {r d : Nat} : kdK (KS r d) 123 = some (20, 24, []) := rfl
theorem kd_124 {r d : Nat} : kdK (KS r d) 124 = some (20, 10, []) := rfl
theorem kd_125 {r d : Nat} : kdK (KS r d) 125 = some (20, 5, []) := rfl
theorem kd_126 {r d : Nat} : kdK (KS r d) 126 = some (20, 20, []) := rfl
theorem kd_127 {r d : Nat} : kdK (KS r d) 127 = some (9, 3, [128, 130, 135]) := rfl
theorem kd_128 {r d : Nat} : kdK (KS r d) 128 = some (0, 2, [0, 129]) := rfl
theorem kd_129 {r d : Nat} : kdK (KS r d) 129 = some (20, 3, []) := rfl
theorem kd_130 {r d : Nat} : kdK (KS r d) 130 = some (4, 5, [0, 131, 132, 133, 134]) := rfl
theorem kd_131 {r d : Nat} : kdK (KS r d) 131 = some (20, 12, []) := rfl
theorem kd_132 {r d : Nat} : kdK (KS r d) 132 = some (20, 12, []) := rfl
theorem kd_133 {r d : Nat} : kdK (KS r d) 133 = some (20, 12, []) := rfl
theorem kd_134 {r d : Nat} : kdK (KS r d) 134 = some (20, 12, []) := rfl
theorem kd_135 {r d : Nat} : kdK (KS r d) 135 = some (1, 7, [136, 137, 138, 0, 0, 139, 0]) := rfl
theorem kd_136 {r d : Nat} : kdK (KS r d) 136 = some (20, 24, []) := rfl
theorem kd_137 {r d : Nat} : kdK (KS r d) 137 = some (20, 10, []) := rfl
theorem kd_138 {r d : Nat} : kdK (KS r d) 138 = some (20, 5, []) := rfl
theorem kd_139 {r d : Nat} : kdK (KS r d) 139 = some (20, 20, []) := rfl
theorem kd_140 {r d : Nat} : kdK (KS r d) 140 = some (10, 4, [0, 0, 0, 141]) := rfl
theorem kd_141 {r d : Nat} : kdK (KS r d) 141 = some (0, 2, [0, 142]) := rfl
theorem kd_142 {r d : Nat} : kdK (KS r d) 142 = some (20, 3, []) := rfl
theorem kd_143 {r d : Nat} : kdK (KS r d) 143 = some (8, 12, [0, 0, 0, 0, 144, 145, 146, 147, 148, 149, 150, 152]) := rfl
theorem kd_144 {r d : Nat} : kdK (KS r d) 144 = some (20, 10, []) := rfl
theorem kd_145 {r d : Nat} : kdK (KS r d) 145 = some (20, 10, []) := rfl
theorem kd_146 {r d : Nat} : kdK (KS r d) 146 = some (21, 24, []) := rfl
theorem kd_147 {r d : Nat} : kdK (KS r d) 147 = some (20, 10000, []) := rfl
theorem kd_148 {r d : Nat} : kdK (KS r d) 148 = some (20, 10000, []) := rfl
theorem kd_149 {r d : Nat} : kdK (KS r d) 149 = some (20, 10000, []) := rfl
theorem kd_150 {r d : Nat} : kdK (KS r d) 150 = some (0, 2, [0, 151]) := rfl
theorem kd_151 {r d : Nat} : kdK (KS r d) 151 = some (20, 3, []) := rfl
theorem kd_152 {r d : Nat} : kdK (KS r d) 152 = some (10, 4, [0, 0, 0, 153]) := rfl
theorem kd_153 {r d : Nat} : kdK (KS r d) 153 = some (0, 2, [0, 154]) := rfl
theorem kd_154 {r d : Nat} : kdK (KS r d) 154 = some (20, 3, []) := rfl
theorem kd_155 {r d : Nat} : kdK (KS r d) 155 = some (20, 40, []) := rfl
theorem kd_156 {r d : Nat} : kdK (KS r d) 156 = some (6, 15, [157, 170, 183, 196, 198, 0, 203, 204, 205, 206, 207, 208, 209, 210, 211]) := rfl
theorem kd_157 {r d : Nat} : kdK (KS r d) 157 = some (5, 3, [158, 169, 0]) := rfl
theorem kd_158 {r d : Nat} : kdK (KS r d) 158 = some (24, 10, [159, 160, 161, 162, 163, 164, 165, 166, 167, 168]) := rfl
theorem kd_159 {r d : Nat} : kdK (KS r d) 159 = some (20, 6, []) := rfl
theorem kd_160 {r d : Nat} : kdK (KS r d) 160 = some (20, 6, []) := rfl
theorem kd_161 {r d : Nat} : kdK (KS r d) 161 = some (20, 6, []) := rfl
theorem kd_162 {r d : Nat} : kdK (KS r d) 162 = some (20, 6, []) := rfl
theorem kd_163 {r d : Nat} : kdK (KS r d) 163 = some (20, 6, []) := rfl
theorem kd_164 {r d : Nat} : kdK (KS r d) 164 = some (20, 6, []) := rfl
theorem kd_165 {r d : Nat} : kdK (KS r d) 165 = some (20, 6, []) := rfl
theorem kd_166 {r d : Nat} : kdK (KS r d) 166 = some (20, 6, []) := rfl
theorem kd_167 {r d : Nat} : kdK (KS r d) 167 = some (20, 6, []) := rfl
theorem kd_168 {r d : Nat} : kdK (KS r d) 168 = some (20, 6, []) := rfl
theorem kd_169 {r d : Nat} : kdK (KS r d) 169 = some (20, 10, []) := rfl
theorem kd_170 {r d : Nat} : kdK (KS r d) 170 = some (5, 3, [171, 182, 0]) := rfl
theorem kd_171 {r d : Nat} : kdK (KS r d) 171 = some (24, 10, [172, 173, 174, 175, 176, 177, 178, 179, 180, 181]) := rfl
theorem kd_172 {r d : Nat} : kdK (KS r d) 172 = some (20, 6, []) := rfl
theorem kd_173 {r d : Nat} : kdK (KS r d) 173 = some (20, 6, []) := rfl
theorem kd_174 {r d : Nat} : kdK (KS r d) 174 = some (20, 6, []) := rfl
theorem kd_175 {r d : Nat} : kdK (KS r d) 175 = some (20, 6, []) := rfl
theorem kd_176 {r d : Nat} : kdK (KS r d) 176 = some (20, 6, []) := rfl
theorem kd_177 {r d : Nat} : kdK (KS r d) 177 = some (20, 6, []) := rfl
theorem kd_178 {r d : Nat} : kdK (KS r d) 178 = some (20, 6, []) := rfl
theorem kd_179 {r d : Nat} : kdK (KS r d) 179 = some (20, 6, []) := rfl
theorem kd_180 {r d : Nat} : kdK (KS r d) 180 = some (20, 6, []) := rfl
theorem kd_181 {r d : Nat} : kdK (KS r d) 181 = some (20, 6, []) := rfl
theorem kd_182 {r d : Nat} : kdK (KS r d) 182 = some (20, 10, []) := rfl
theorem kd_183 {r d : Nat} : kdK (KS r d) 183 = some (5, 3, [184, 195, 0]) := rfl
theorem kd_184 {r d : Nat} : kdK (KS r d) 184 = some (24, 10, [185, 186, 187, 188, 189, 190, 191, 192, 193, 194]) := rfl
theorem kd_185 {r d : Nat} : kdK (KS r d) 185 = some (20, 6, []) := rfl
theorem kd_186 {r d : Nat} : kdK (KS r d) 186 = some (20, 6, []) := rfl
theorem kd_187 {r d : Nat} : kdK (KS r d) 187 = some (20, 6, []) := rfl
theorem kd_188 {r d : Nat} : kdK (KS r d) 188 = some (20, 6, []) := rfl
theorem kd_189 {r d : Nat} : kdK (KS r d) 189 = some (20, 6, []) := rfl
theorem kd_190 {r d : Nat} : kdK (KS r d) 190 = some (20, 6, []) := rfl
theorem kd_191 {r d : Nat} : kdK (KS r d) 191 = some (20, 6, []) := rfl
theorem kd_192 {r d : Nat} : kdK (KS r d) 192 = some (20, 6, []) := rfl
theorem kd_193 {r d : Nat} : kdK (KS r d) 193 = some (20, 6, []) := rfl
theorem kd_194 {r d : Nat} : kdK (KS r d) 194 = some (20, 6, []) := rfl
theorem kd_195 {r d : Nat} : kdK (KS r d) 195 = some (20, 10, []) := rfl
theorem kd_196 {r d : Nat} : kdK (KS r d) 196 = some (0, 2, [0, 197]) := rfl
theorem kd_197 {r d : Nat} : kdK (KS r d) 197 = some (20, 3, []) := rfl
theorem kd_198 {r d : Nat} : kdK (KS r d) 198 = some (4, 5, [0, 199, 200, 201, 202]) := rfl
theorem kd_199 {r d : Nat} : kdK (KS r d) 199 = some (20, 12, []) := rfl
theorem kd_200 {r d : Nat} : kdK (KS r d) 200 = some (20, 12, []) := rfl
set_option maxRecDepth 4000 in
theorem kd_201 {r d : Nat} : kdK (KS r d) 201 = some (20, 12, []) := rfl
set_option maxRecDepth 4000 in
theorem kd_202 {r d : Nat} : kdK (KS r d) 202 = some (20, 12, []) := rfl
set_option maxRecDepth 4000 in
theorem kd_203 {r d : Nat} : kdK (KS r d) 203 = some (20, 24, []) := rfl
set_option maxRecDepth 4000 in
theorem kd_204 {r d : Nat} : kdK (KS r d) 204 = some (20, 24, []) := rfl
set_option maxRecDepth 4000 in
theorem kd_205 {r d : Nat} : kdK (KS r d) 205 = some (20, 24, []) := rfl
set_option maxRecDepth 4000 in
theorem kd_206 {r d : Nat} : kdK (KS r d) 206 = some (20, 24, []) := rfl
set_option maxRecDepth 4000 in
theorem kd_207 {r d : Nat} : kdK (KS r d) 207 = some (20, 24, []) := rfl
set_option maxRecDepth 4000 in
theorem kd_208 {r d : Nat} : kdK (KS r d) 208 = some (20, 24, []) := rfl
set_option maxRecDepth 4000 in
theorem kd_209 {r d : Nat} : kdK (KS r d) 209 = some (20, 24, []) := rfl
set_option maxRecDepth 4000 in
theorem kd_210 {r d : Nat} : kdK (KS r d) 210 = some (20, 24, []) := rfl
set_option maxRecDepth 4000 in
theorem kd_211 {r d : Nat} : kdK (KS r d) 211 = some (20, 24, []) := rfl
set_option maxRecDepth 4000 in
theorem kd_212 {r d : Nat} : kdK (KS r d) 212 = some (6, 15, [213, 226, 239, 252, 254, 0, 259, 260, 261, 262, 263, 264, 265, 266, 267]) := rfl
set_option maxRecDepth 4000 in
theorem kd_213 {r d : Nat} : kdK (KS r d) 213 = some (5, 3, [214, 225, 0]) := rfl
set_option maxRecDepth 4000 in
theorem kd_214 {r d : Nat} : kdK (KS r d) 214 = some (24, 10, [215, 216, 217, 218, 219, 220, 221, 222, 223, 224]) := rfl
set_option maxRecDepth 4000 in
theorem kd_215 {r d : Nat} : kdK (KS r d) 215 = some (20, 6, []) := rfl
set_option maxRecDepth 4000 in
theorem kd_216 {r d : Nat} : kdK (KS r d) 216 = some (20, 6, []) := rfl
set_option maxRecDepth 4000 in
theorem kd_217 {r d : Nat} : kdK (KS r d) 217 = some (20, 6, []) := rfl
set_option maxRecDepth 4000 in
theorem kd_218 {r d : Nat} : kdK (KS r d) 218 = some (20, 6, []) := rfl
set_option maxRecDepth 4000 in
theorem kd_219 {r d : Nat} : kdK (KS r d) 219 = some (20, 6, []) := rfl
set_option maxRecDepth 4000 in
theorem kd_220 {r d : Nat} : kdK (KS r d) 220 = some (20, 6, []) := rfl
set_option maxRecDepth 4000 in
theorem kd_221 {r d : Nat} : kdK (KS r d) 221 = some (20, 6, []) := rfl
set_option maxRecDepth 4000 in
theorem kd_222 {r d : Nat} : kdK (KS r d) 222 = some (20, 6, []) := rfl
set_option maxRecDepth 4000 in
theorem kd_223 {r d : Nat} : kdK (KS r d) 223 = some (20, 6, []) := rfl
set_option maxRecDepth 4000 in
theorem kd_224 {r d : Nat} : kdK (KS r d) 224 = some (20, 6, []) := rfl
set_option maxRecDepth 4000 in
theorem kd_225 {r d : Nat} : kdK (KS r d) 225 = some (20, 10, []) := rfl
set_option maxRecDepth 4000 in
theorem kd_226 {r d : Nat} : kdK (KS r d) 226 = some (5, 3, [227, 238, 0]) := rfl
set_option maxRecDepth 4000 in
theorem kd_227 {r d : Nat} : kdK (KS r d) 227 = some (24, 10, [228, 229, 230, 231, 232, 233, 234, 235, 236, 237]) := rfl
set_option maxRecDepth 4000 in
theorem kd_228 {r d : Nat} : kdK (KS r d) 228 = some (20, 6, []) := rfl
set_option maxRecDepth 4000 in
theorem kd_229 {r d : Nat} : kdK (KS r d) 229 = some (20, 6, []) := rfl
set_option maxRecDepth 4000 in
theorem kd_230 {r d : Nat} : kdK (KS r d) 230 = some (20, 6, []) := rfl
set_option maxRecDepth 4000 in
theorem kd_231 {r d : Nat} : kdK (KS r d) 231 = some (20, 6, []) := rfl
set_option maxRecDepth 4000 in
theorem kd_232 {r d : Nat} : kdK (KS r d) 232 = some (20, 6, []) := rfl
set_option maxRecDepth 4000 in
theorem kd_233 {r d : Nat} : kdK (KS r d) 233 = some (20, 6, []) := rfl
set_option maxRecDepth 4000 in
theorem kd_234 {r d : Nat} : kdK (KS r d) 234 = some (20, 6, []) := rfl
set_option maxRecDepth 4000 in
theorem kd_235 {r d : Nat} : kdK (KS r d) 235 = some (20, 6, []) := rfl
set_option maxRecDepth 4000 in
theorem kd_236 {r d : Nat} : kdK (KS r d) 236 = some (20, 6, []) := rfl
set_option maxRecDepth 4000 in
theorem kd_237 {r d : Nat} : kdK (KS r d) 237 = some (20, 6, []) := rfl
set_option maxRecDepth 4000 in
theorem kd_238 {r d : Nat} : kdK (KS r d) 238 = some (20, 10, []) := rfl
set_option maxRecDepth 4000 in
theorem kd_239 {r d : Nat} : kdK (KS r d) 239 = some (5, 3, [240, 251, 0]) := rfl
set_option maxRecDepth 4000 in
theorem kd_240 {r d : Nat} : kdK (KS r d) 240 = some (24, 10, [241, 242, 243, 244, 245, 246, 247, 248, 249, 250]) := rfl
set_option maxRecDepth 4000 in
theorem kd_241 {r d : Nat} : kdK (KS r d) 241 = some (20, 6, []) := rfl
set_option maxRecDepth 4000 in
theorem kd_242 {r d : Nat} : kdK (KS r d) 242 = some (20, 6, []) := rfl
set_option maxRecDepth 4000 in
theorem kd_243 {r d : Nat} : kdK (KS r d) 243 = some (20, 6, []) := rfl
set_option maxRecDepth 4000 in
theorem kd_244 {r d : Nat} : kdK (KS r d) 244 = some (20, 6, []) := rfl
set_option maxRecDepth 4000 in
theorem kd_245 {r d : Nat} : kdK (KS r d) 245 = some (20, 6, []) := rfl
set_option maxRecDepth 4000 in
theorem kd_246 {r d : Nat} : kdK (KS r d) 246 = some (20, 6, []) := rfl
set_option maxRecDepth 4000 in
theorem kd_247 {r d : Nat} : kdK (KS r d) 247 = some (20, 6, []) := rfl
set_option maxRecDepth 4000 in
theorem kd_248 {r d : Nat} : kdK (KS r d) 248 = some (20, 6, []) := rfl
set_option maxRecDepth 4000 in
theorem kd_249 {r d : Nat} : kdK (KS r d) 249 = some (20, 6, []) := rfl
set_option maxRecDepth 4000 in
theorem kd_250 {r d : Nat} : kdK (KS r d) 250 = some (20, 6, []) := rfl
set_option maxRecDepth 4000 in
theorem kd_251 {r d : Nat} : kdK (KS r d) 251 = some (20, 10, []) := rfl
set_option maxRecDepth 4000 in
theorem kd_252 {r d : Nat} : kdK (KS r d) 252 = some (0, 2, [0, 253]) := rfl
set_option maxRecDepth 4000 in
theorem kd_253 {r d : Nat} : kdK (KS r d) 253 = some (20, 3, []) := rfl
set_option maxRecDepth 4000 in
theorem kd_254 {r d : Nat} : kdK (KS r d) 254 = some (4, 5, [0, 255, 256, 257, 258]) := rfl
set_option maxRecDepth 4000 in
theorem kd_255 {r d : Nat} : kdK (KS r d) 255 = some (20, 12, []) := rfl
set_option maxRecDepth 4000 in
theorem kd_256 {r d : Nat} : kdK (KS r d) 256 = some (20, 12, []) := rfl
set_option maxRecDepth 4000 in
theorem kd_257 {r d : Nat} : kdK (KS r d) 257 = some (20, 12, []) := rfl
set_option maxRecDepth 4000 in
theorem kd_258 {r d : Nat} : kdK (KS r d) 258 = some (20, 12, []) := rfl
set_option maxRecDepth 4000 in
theorem kd_259 {r d : Nat} : kdK (KS r d) 259 = some (20, 24, []) := rfl
set_option maxRecDepth 4000 in
theorem kd_260 {r d : Nat} : kdK (KS r d) 260 = some (20, 24, []) := rfl
set_option maxRecDepth 4000 in
theorem kd_261 {r d : Nat} : kdK (KS r d) 261 = some (20, 24, []) := rfl
set_option maxRecDepth 4000 in
theorem kd_262 {r d : Nat} : kdK (KS r d) 262 = some (20, 24, []) := rfl
set_option maxRecDepth 4000 in
theorem kd_263 {r d : Nat} : kdK (KS r d) 263 = some (20, 24, []) := rfl
set_option maxRecDepth 4000 in
theorem kd_264 {r d : Nat} : kdK (KS r d) 264 = some (20, 24, []) := rfl
set_option maxRecDepth 4000 in
theorem kd_265 {r d : Nat} : kdK (KS r d) 265 = some (20, 24, []) := rfl
set_option maxRecDepth 4000 in
theorem kd_266 {r d : Nat} : kdK (KS r d) 266 = some (20, 24, []) := rfl
set_option maxRecDepth 4000 in
theorem kd_267 {r d : Nat} : kdK (KS r d) 267 = some (20, 24, []) := rfl
set_option maxRecDepth 4000 in
theorem kd_268 {r d : Nat} : kdK (KS r d) 268 = some (12, 31, [269, 270, 271, 272, 0, 0, 0, 0, 0, 273, 274, 0, 275, 0, 0, 0, 0, 0, 0, 0, 0, 0, 0, 276, 277, 278, 0, 279, 280, 281, 0]) := rfl
set_option maxRecDepth 4000 in
theorem kd_269 {r d : Nat} : kdK (KS r d) 269 = some (20, 504, []) := rfl
set_option maxRecDepth 4000 in
theorem kd_270 {r d : Nat} : kdK (KS r d) 270 = some (20, 504, []) := rfl
set_option maxRecDepth 4000 in
theorem kd_271 {r d : Nat} : kdK (KS r d) 271 = some (20, 504, []) := rfl
set_option maxRecDepth 4000 in
theorem kd_272 {r d : Nat} : kdK (KS r d) 272 = some (20, 4032, []) := rfl
set_option maxRecDepth 4000 in
theorem kd_273 {r d : Nat} : kdK (KS r d) 273 = some (20, 10000, []) := rfl
set_option maxRecDepth 4000 in
theorem kd_274 {r d : Nat} : kdK (KS r d) 274 = some (20, 10000, []) := rfl
set_option maxRecDepth 4000 in
theorem kd_275 {r d : Nat} : kdK (KS r d) 275 = some (20, 700, []) := rfl
set_option maxRecDepth 4000 in
theorem kd_276 {r d : Nat} : kdK (KS r d) 276 = some (20, 9, []) := rfl
set_option maxRecDepth 4000 in
theorem kd_277 {r d : Nat} : kdK (KS r d) 277 = some (20, 31, []) := rfl
set_option maxRecDepth 4000 in
theorem kd_278 {r d : Nat} : kdK (KS r d) 278 = some (20, 62, []) := rfl
set_option maxRecDepth 4000 in
theorem kd_279 {r d : Nat} : kdK (KS r d) 279 = some (21, 10000, []) := rfl
set_option maxRecDepth 4000 in
theorem kd_280 {r d : Nat} : kdK (KS r d) 280 = some (20, 10000, []) := rfl
set_option maxRecDepth 4000 in
theorem kd_281 {r d : Nat} : kdK (KS r d) 281 = some (20, 60, []) := rfl
set_option maxRecDepth 4000 in
theorem kd_282 {r d : Nat} : kdK (KS r d) 282 = some (22, 1, []) := rfl
/-! shapes: an object with what hangs on it -/
def ShCf (K : List AKd) (k : Nat) : Prop := kdK K k = some (0, 2, [0, k + 1]) ∧ kdK K (k + 1) = some (20, 3, [])
def ShIv (K : List AKd) (k : Nat) : Prop := kdK K k = some (4, 5, [0, k + 1, k + 2, k + 3, k + 4]) ∧ kdK K (k + 1) = some (20, 12, []) ∧ kdK K (k + 2) = some (20, 12, []) ∧ kdK K (k + 3) = some (20, 12, []) ∧ kdK K (k + 4) = some (20, 12, [])
def ShCv (K : List AKd) (k : Nat) : Prop := kdK K k = some (1, 7, [k + 1, k + 2, k + 3, 0, 0, k + 4, 0]) ∧ kdK K (k + 1) = some (20, 24, []) ∧ kdK K (k + 2) = some (20, 10, []) ∧ kdK K (k + 3) = some (20, 5, []) ∧ kdK K (k + 4) = some (20, 20, [])
def ShSt (K : List AKd) (k : Nat) : Prop := kdK K k = some (9, 3, [k + 1, k + 3, k + 8]) ∧ ShCf K (k + 1) ∧ ShIv K (k + 3) ∧ ShCv K (k + 8)
def ShSp (K : List AKd) (k : Nat) : Prop := kdK K k = some (10, 4, [0, 0, 0, k + 1]) ∧ ShCf K (k + 1)
def ShNm (K : List AKd) (k : Nat) : Prop := kdK K k = some (5, 3, [k + 1, k + 12, 0]) ∧ kdK K (k + 1) = some (24, 10, [k + 2, k + 3, k + 4, k + 5, k + 6, k + 7, k + 8, k + 9, k + 10, k + 11]) ∧ (∀ i, i < 10 → kdK K (k + 2 + i) = some (20, 6, [])) ∧ kdK K (k + 12) = some (20, 10, [])
def ShRl (K : List AKd) (k : Nat) : Prop := kdK K k = some (6, 15, [k + 1, k + 14, k + 27, k + 40, k + 42, 0, k + 47, k + 48, k + 49, k + 50, k + 51, k + 52, k + 53, k + 54, k + 55]) ∧ ShNm K (k + 1) ∧ ShNm K (k + 14) ∧ ShNm K (k + 27) ∧ ShCf K (k + 40) ∧ ShIv K (k + 42)
  ∧ kdK K (k + 47) = some (20, 24, []) ∧ kdK K (k + 48) = some (20, 24, []) ∧ kdK K (k + 49) = some (20, 24, []) ∧ kdK K (k + 50) = some (20, 24, []) ∧ kdK K (k + 51) = some (20, 24, []) ∧ kdK K (k + 52) = some (20, 24, []) ∧ kdK K (k + 53) = some (20, 24, []) ∧ kdK K (k + 54) = some (20, 24, []) ∧ kdK K (k + 55) = some (20, 24, [])
theorem shSt_8 {r d : Nat} : ShSt (KS r d) 8 := ⟨kd_8, ⟨kd_9, kd_10⟩, ⟨kd_11, kd_12, kd_13, kd_14, kd_15⟩, ⟨kd_16, kd_17, kd_18, kd_19, kd_20⟩⟩
theorem shSt_21 {r d : Nat} : ShSt (KS r d) 21 := ⟨kd_21, ⟨kd_22, kd_23⟩, ⟨kd_24, kd_25, kd_26, kd_27, kd_28⟩, ⟨kd_29, kd_30, kd_31, kd_32, kd_33⟩⟩
theorem shSt_h {r d : Nat} : ∀ i : Nat, i < 8 → ShSt (KS r d) (36 + 13 * i)
  | 0, _ => ⟨kd_36, ⟨kd_37, kd_38⟩, ⟨kd_39, kd_40, kd_41, kd_42, kd_43⟩, ⟨kd_44, kd_45, kd_46, kd_47, kd_48⟩⟩
  | 1, _ => ⟨kd_49, ⟨kd_50, kd_51⟩, ⟨kd_52, kd_53, kd_54, kd_55, kd_56⟩, ⟨kd_57, kd_58, kd_59, kd_60, kd_61⟩⟩
  | 2, _ => ⟨kd_62, ⟨kd_63, kd_64⟩, ⟨kd_65, kd_66, kd_67, kd_68, kd_69⟩, ⟨kd_70, kd_71, kd_72, kd_73, kd_74⟩⟩
  | 3, _ => ⟨kd_75, ⟨kd_76, kd_77⟩, ⟨kd_78, kd_79, kd_80, kd_81, kd_82⟩, ⟨kd_83, kd_84, kd_85, kd_86, kd_87⟩⟩
  | 4, _ => ⟨kd_88, ⟨kd_89, kd_90⟩, ⟨kd_91, kd_92, kd_93, kd_94, kd_95⟩, ⟨kd_96, kd_97, kd_98, kd_99, kd_100⟩⟩
  | 5, _ => ⟨kd_101, ⟨kd_102, kd_103⟩, ⟨kd_104, kd_105, kd_106, kd_107, kd_108⟩, ⟨kd_109, kd_110, kd_111, kd_112, kd_113⟩⟩
  | 6, _ => ⟨kd_114, ⟨kd_115, kd_116⟩, ⟨kd_117, kd_118, kd_119, kd_120, kd_121⟩, ⟨kd_122, kd_123, kd_124, kd_125, kd_126⟩⟩
  | 7, _ => ⟨kd_127, ⟨kd_128, kd_129⟩, ⟨kd_130, kd_131, kd_132, kd_133, kd_134⟩, ⟨kd_135, kd_136, kd_137, kd_138, kd_139⟩⟩
  | n + 8, h => absurd h (by omega)
theorem shSp_140 {r d : Nat} : ShSp (KS r d) 140 := ⟨kd_140, ⟨kd_141, kd_142⟩⟩
theorem shSp_152 {r d : Nat} : ShSp (KS r d) 152 := ⟨kd_152, ⟨kd_153, kd_154⟩⟩
theorem shCf_150 {r d : Nat} : ShCf (KS r d) 150 := ⟨kd_150, kd_151⟩
theorem shNm_157 {r d : Nat} : ShNm (KS r d) 157 := ⟨kd_157, kd_158, fun i hi => (match i, hi with | 0, _ => kd_159 | 1, _ => kd_160 | 2, _ => kd_161 | 3, _ => kd_162 | 4, _ => kd_163 | 5, _ => kd_164 | 6, _ => kd_165 | 7, _ => kd_166 | 8, _ => kd_167 | 9, _ => kd_168 | n + 10, h => absurd h (by omega)), kd_169⟩
theorem shNm_170 {r d : Nat} : ShNm (KS r d) 170 := ⟨kd_170, kd_171, fun i hi => (match i, hi with | 0, _ => kd_172 | 1, _ => kd_173 | 2, _ => kd_174 | 3, _ => kd_175 | 4, _ => kd_176 | 5, _ => kd_177 | 6, _ => kd_178 | 7, _ => kd_179 | 8, _ => kd_180 | 9, _ => kd_181 | n + 10, h => absurd h (by omega)), kd_182⟩
theorem shNm_183 {r d : Nat} : ShNm (KS r d) 183 := ⟨kd_183, kd_184, fun i hi => (match i, hi with | 0, _ => kd_185 | 1, _ => kd_186 | 2, _ => kd_187 | 3, _ => kd_188 | 4, _ => kd_189 | 5, _ => kd_190 | 6, _ => kd_191 | 7, _ => kd_192 | 8, _ => kd_193 | 9, _ => kd_194 | n + 10, h => absurd h (by omega)), kd_195⟩
theorem shNm_213 {r d : Nat} : ShNm (KS r d) 213 := ⟨kd_213, kd_214, fun i hi => (match i, hi with | 0, _ => kd_215 | 1, _ => kd_216 | 2, _ => kd_217 | 3, _ => kd_218 | 4, _ => kd_219 | 5, _ => kd_220 | 6, _ => kd_221 | 7, _ => kd_222 | 8, _ => kd_223 | 9, _ => kd_224 | n + 10, h => absurd h (by omega)), kd_225⟩
theorem shNm_226 {r d : Nat} : ShNm (KS r d) 226 := ⟨kd_226, kd_227, fun i hi => (match i, hi with | 0, _ => kd_228 | 1, _ => kd_229 | 2, _ => kd_230 | 3, _ => kd_231 | 4, _ => kd_232 | 5, _ => kd_233 | 6, _ => kd_234 | 7, _ => kd_235 | 8, _ => kd_236 | 9, _ => kd_237 | n + 10, h => absurd h (by omega)), kd_238⟩
theorem shNm_239 {r d : Nat} : ShNm (KS r d) 239 := ⟨kd_239, kd_240, fun i hi => (match i, hi with | 0, _ => kd_241 | 1, _ => kd_242 | 2, _ => kd_243 | 3, _ => kd_244 | 4, _ => kd_245 | 5, _ => kd_246 | 6, _ => kd_247 | 7, _ => kd_248 | 8, _ => kd_249 | 9, _ => kd_250 | n + 10, h => absurd h (by omega)), kd_251⟩
theorem shRl_156 {r d : Nat} : ShRl (KS r d) 156 := ⟨kd_156, shNm_157, shNm_170, shNm_183, ⟨kd_196, kd_197⟩, ⟨kd_198, kd_199, kd_200, kd_201, kd_202⟩, kd_203, kd_204, kd_205, kd_206, kd_207, kd_208, kd_209, kd_210, kd_211⟩
theorem shRl_212 {r d : Nat} : ShRl (KS r d) 212 := ⟨kd_212, shNm_213, shNm_226, shNm_239, ⟨kd_252, kd_253⟩, ⟨kd_254, kd_255, kd_256, kd_257, kd_258⟩, kd_259, kd_260, kd_261, kd_262, kd_263, kd_264, kd_265, kd_266, kd_267⟩
def RD2 (r : Nat) : Prop := r = 156 ∨ r = 212
theorem shRl {r d k : Nat} (h : RD2 k) : ShRl (KS r d) k := by
  rcases h with rfl | rfl
  · exact shRl_156
  · exact shRl_212
