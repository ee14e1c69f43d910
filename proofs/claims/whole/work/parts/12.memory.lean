abbrev Mem : Type := Nat → Int → Int
def SK0 : List (Nat × Nat × List Nat) := [(19, 12, [1, 21, 143, 144, 145, 147, 150, 153, 156, 157, 161, 162]), (15, 1, [2]), (4, 6, [3, 6, 9, 12, 15, 18]), (17, 7, [4, 5]), (0, 6, []), (0, 6, []), (17, 7, [7, 8]), (0, 6, []), (0, 6, []), (17, 7, [10, 11]), (0, 6, []), (0, 6, []), (17, 7, [13, 14]), (0, 6, []), (0, 6, []), (17, 7, [16, 17]), (0, 6, []), (0, 6, []), (17, 7, [19, 20]), (0, 6, []), (0, 6, []), (11, 3, [22]), (3, 6, [23, 43, 63, 83, 103, 123]), (15, 1, [24]), (4, 6, [25, 28, 31, 34, 37, 40]), (17, 7, [26, 27]), (0, 6, []), (0, 6, []), (17, 7, [29, 30]), (0, 6, []), (0, 6, []), (17, 7, [32, 33]), (0, 6, []), (0, 6, []), (17, 7, [35, 36]), (0, 6, []), (0, 6, []), (17, 7, [38, 39]), (0, 6, []), (0, 6, []), (17, 7, [41, 42]), (0, 6, []), (0, 6, []), (15, 1, [44]), (4, 6, [45, 48, 51, 54, 57, 60]), (17, 7, [46, 47]), (0, 6, []), (0, 6, []), (17, 7, [49, 50]), (0, 6, []), (0, 6, []), (17, 7, [52, 53]), (0, 6, []), (0, 6, []), (17, 7, [55, 56]), (0, 6, []), (0, 6, []), (17, 7, [58, 59]), (0, 6, []), (0, 6, []), (17, 7, [61, 62]), (0, 6, []), (0, 6, []), (15, 1, [64]), (4, 6, [65, 68, 71, 74, 77, 80]), (17, 7, [66, 67]), (0, 6, []), (0, 6, []), (17, 7, [69, 70]), (0, 6, []), (0, 6, []), (17, 7, [72, 73]), (0, 6, []), (0, 6, []), (17, 7, [75, 76]), (0, 6, []), (0, 6, []), (17, 7, [78, 79]), (0, 6, []), (0, 6, []), (17, 7, [81, 82]), (0, 6, []), (0, 6, []), (15, 1, [84]), (4, 6, [85, 88, 91, 94, 97, 100]), (17, 7, [86, 87]), (0, 6, []), (0, 6, []), (17, 7, [89, 90]), (0, 6, []), (0, 6, []), (17, 7, [92, 93]), (0, 6, []), (0, 6, []), (17, 7, [95, 96]), (0, 6, []), (0, 6, []), (17, 7, [98, 99]), (0, 6, []), (0, 6, []), (17, 7, [101, 102]), (0, 6, []), (0, 6, []), (15, 1, [104]), (4, 6, [105, 108, 111, 114, 117, 120]), (17, 7, [106, 107]), (0, 6, []), (0, 6, []), (17, 7, [109, 110]), (0, 6, []), (0, 6, []), (17, 7, [112, 113]), (0, 6, []), (0, 6, []), (17, 7, [115, 116]), (0, 6, []), (0, 6, []), (17, 7, [118, 119]), (0, 6, []), (0, 6, []), (17, 7, [121, 122]), (0, 6, []), (0, 6, []), (15, 1, [124]), (4, 6, [125, 128, 131, 134, 137, 140]), (17, 7, [126, 127]), (0, 6, []), (0, 6, []), (17, 7, [129, 130]), (0, 6, []), (0, 6, []), (17, 7, [132, 133]), (0, 6, []), (0, 6, []), (17, 7, [135, 136]), (0, 6, []), (0, 6, []), (17, 7, [138, 139]), (0, 6, []), (0, 6, []), (17, 7, [141, 142]), (0, 6, []), (0, 6, []), (3, 2, [163, 183]), (2, 2, []), (18, 9, [146]), (0, 100, []), (16, 3, [148, 149]), (0, 6, []), (1, 6, []), (17, 7, [151, 152]), (0, 6, []), (0, 6, []), (12, 4, [154, 155]), (1, 6, []), (1, 8, []), (10, 2, []), (14, 3, [158, 159, 160]), (1, 6, []), (1, 6, []), (1, 6, []), (13, 2, []), (1, 6, []), (15, 1, [164]), (4, 6, [165, 168, 171, 174, 177, 180]), (17, 7, [166, 167]), (0, 6, []), (0, 6, []), (17, 7, [169, 170]), (0, 6, []), (0, 6, []), (17, 7, [172, 173]), (0, 6, []), (0, 6, []), (17, 7, [175, 176]), (0, 6, []), (0, 6, []), (17, 7, [178, 179]), (0, 6, []), (0, 6, []), (17, 7, [181, 182]), (0, 6, []), (0, 6, []), (15, 1, [184]), (4, 6, [185, 188, 191, 194, 197, 200]), (17, 7, [186, 187]), (0, 6, []), (0, 6, []), (17, 7, [189, 190]), (0, 6, []), (0, 6, []), (17, 7, [192, 193]), (0, 6, []), (0, 6, []), (17, 7, [195, 196]), (0, 6, []), (0, 6, []), (17, 7, [198, 199]), (0, 6, []), (0, 6, []), (17, 7, [201, 202]), (0, 6, []), (0, 6, []), (20, 32, [204, 205, 206, 207, 208, 209, 210, 211, 212, 213, 214, 215, 216, 217, 218]), (0, 96, []), (0, 576, []), (0, 192, []), (2, 2, []), (0, 20, []), (0, 20, []), (0, 100, []), (1, 8, []), (0, 64, []), (0, 8, []), (1, 12, []), (1, 12, []), (0, 6, []), (1, 6, []), (1, 6, [])]
/-- closed words: nothing unfolds them by itself -/
theorem SK_ex : ∃ l : List (Nat × Nat × List Nat), l = SK0 := ⟨_, rfl⟩
noncomputable def SK : List (Nat × Nat × List Nat) := Classical.choose SK_ex
theorem SK_eq : SK = SK0 := Classical.choose_spec SK_ex
theorem sk_0 : SK[0]? = some (19, 12, [1, 21, 143, 144, 145, 147, 150, 153, 156, 157, 161, 162]) := by rw [SK_eq]; rfl
theorem sk_1 : SK[1]? = some (15, 1, [2]) := by rw [SK_eq]; rfl
theorem sk_2 : SK[2]? = some (4, 6, [3, 6, 9, 12, 15, 18]) := by rw [SK_eq]; rfl
theorem sk_3 : SK[3]? = some (17, 7, [4, 5]) := by rw [SK_eq]; rfl
theorem sk_4 : SK[4]? = some (0, 6, []) := by rw [SK_eq]; rfl
theorem sk_5 : SK[5]? = some (0, 6, []) := by rw [SK_eq]; rfl
theorem sk_6 : SK[6]? = some (17, 7, [7, 8]) := by rw [SK_eq]; rfl
theorem sk_7 : SK[7]? = some (0, 6, []) := by rw [SK_eq]; rfl
theorem sk_8 : SK[8]? = some (0, 6, []) := by rw [SK_eq]; rfl
theorem sk_9 : SK[9]? = some (17, 7, [10, 11]) := by rw [SK_eq]; rfl
theorem sk_10 : SK[10]? = some (0, 6, []) := by rw [SK_eq]; rfl
theorem sk_11 : SK[11]? = some (0, 6, []) := by rw [SK_eq]; rfl
theorem sk_12 : SK[12]? = some (17, 7, [13, 14]) := by rw [SK_eq]; rfl
theorem sk_13 : SK[13]? = some (0, 6, []) := by rw [SK_eq]; rfl
theorem sk_14 : SK[14]? = some (0, 6, []) := by rw [SK_eq]; rfl
theorem sk_15 : SK[15]? = some (17, 7, [16, 17]) := by rw [SK_eq]; rfl
theorem sk_16 : SK[16]? = some (0, 6, []) := by rw [SK_eq]; rfl
theorem sk_17 : SK[17]? = some (0, 6, []) := by rw [SK_eq]; rfl
theorem sk_18 : SK[18]? = some (17, 7, [19, 20]) := by rw [SK_eq]; rfl
theorem sk_19 : SK[19]? = some (0, 6, []) := by rw [SK_eq]; rfl
theorem sk_20 : SK[20]? = some (0, 6, []) := by rw [SK_eq]; rfl
theorem sk_21 : SK[21]? = some (11, 3, [22]) := by rw [SK_eq]; rfl
theorem sk_22 : SK[22]? = some (3, 6, [23, 43, 63, 83, 103, 123]) := by rw [SK_eq]; rfl
theorem sk_23 : SK[23]? = some (15, 1, [24]) := by rw [SK_eq]; rfl
theorem sk_24 : SK[24]? = some (4, 6, [25, 28, 31, 34, 37, 40]) := by rw [SK_eq]; rfl
theorem sk_25 : SK[25]? = some (17, 7, [26, 27]) := by rw [SK_eq]; rfl
theorem sk_26 : SK[26]? = some (0, 6, []) := by rw [SK_eq]; rfl
theorem sk_27 : SK[27]? = some (0, 6, []) := by rw [SK_eq]; rfl
theorem sk_28 : SK[28]? = some (17, 7, [29, 30]) := by rw [SK_eq]; rfl
theorem sk_29 : SK[29]? = some (0, 6, []) := by rw [SK_eq]; rfl
theorem sk_30 : SK[30]? = some (0, 6, []) := by rw [SK_eq]; rfl
theorem sk_31 : SK[31]? = some (17, 7, [32, 33]) := by rw [SK_eq]; rfl
theorem sk_32 : SK[32]? = some (0, 6, []) := by rw [SK_eq]; rfl
theorem sk_33 : SK[33]? = some (0, 6, []) := by rw [SK_eq]; rfl
theorem sk_34 : SK[34]? = some (17, 7, [35, 36]) := by rw [SK_eq]; rfl
theorem sk_35 : SK[35]? = some (0, 6, []) := by rw [SK_eq]; rfl
theorem sk_36 : SK[36]? = some (0, 6, []) := by rw [SK_eq]; rfl
theorem sk_37 : SK[37]? = some (17, 7, [38, 39]) := by rw [SK_eq]; rfl
theorem sk_38 : SK[38]? = some (0, 6, []) := by rw [SK_eq]; rfl
theorem sk_39 : SK[39]? = some (0, 6, []) := by rw [SK_eq]; rfl
theorem sk_40 : SK[40]? = some (17, 7, [41, 42]) := by rw [SK_eq]; rfl
theorem sk_41 : SK[41]? = some (0, 6, []) := by rw [SK_eq]; rfl
theorem sk_42 : SK[42]? = some (0, 6, []) := by rw [SK_eq]; rfl
theorem sk_43 : SK[43]? = some (15, 1, [44]) := by rw [SK_eq]; rfl
theorem sk_44 : SK[44]? = some (4, 6, [45, 48, 51, 54, 57, 60]) := by rw [SK_eq]; rfl
theorem sk_45 : SK[45]? = some (17, 7, [46, 47]) := by rw [SK_eq]; rfl
theorem sk_46 : SK[46]? = some (0, 6, []) := by rw [SK_eq]; rfl
theorem sk_47 : SK[47]? = some (0, 6, []) := by rw [SK_eq]; rfl
theorem sk_48 : SK[48]? = some (17, 7, [49, 50]) := by rw [SK_eq]; rfl
theorem sk_49 : SK[49]? = some (0, 6, []) := by rw [SK_eq]; rfl
theorem sk_50 : SK[50]? = some (0, 6, []) := by rw [SK_eq]; rfl
theorem sk_51 : SK[51]? = some (17, 7, [52, 53]) := by rw [SK_eq]; rfl
theorem sk_52 : SK[52]? = some (0, 6, []) := by rw [SK_eq]; rfl
theorem sk_53 : SK[53]? = some (0, 6, []) := by rw [SK_eq]; rfl
theorem sk_54 : SK[54]? = some (17, 7, [55, 56]) := by rw [SK_eq]; rfl
theorem sk_55 : SK[55]? = some (0, 6, []) := by rw [SK_eq]; rfl
theorem sk_56 : SK[56]? = some (0, 6, []) := by rw [SK_eq]; rfl
theorem sk_57 : SK[57]? = some (17, 7, [58, 59]) := by rw [SK_eq]; rfl
theorem sk_58 : SK[58]? = some (0, 6, []) := by rw [SK_eq]; rfl
theorem sk_59 : SK[59]? = some (0, 6, []) := by rw [SK_eq]; rfl
theorem sk_60 : SK[60]? = some (17, 7, [61, 62]) := by rw [SK_eq]; rfl
theorem sk_61 : SK[61]? = some (0, 6, []) := by rw [SK_eq]; rfl
theorem sk_62 : SK[62]? = some (0, 6, []) := by rw [SK_eq]; rfl
theorem sk_63 : SK[63]? = some (15, 1, [64]) := by rw [SK_eq]; rfl
theorem sk_64 : SK[64]? = some (4, 6, [65, 68, 71, 74, 77, 80]) := by rw [SK_eq]; rfl
theorem sk_65 : SK[65]? = some (17, 7, [66, 67]) := by rw [SK_eq]; rfl
theorem sk_66 : SK[66]? = some (0, 6, []) := by rw [SK_eq]; rfl
theorem sk_67 : SK[67]? = some (0, 6, []) := by rw [SK_eq]; rfl
theorem sk_68 : SK[68]? = some (17, 7, [69, 70]) := by rw [SK_eq]; rfl
theorem sk_69 : SK[69]? = some (0, 6, []) := by rw [SK_eq]; rfl
theorem sk_70 : SK[70]? = some (0, 6, []) := by rw [SK_eq]; rfl
theorem sk_71 : SK[71]? = some (17, 7, [72, 73]) := by rw [SK_eq]; rfl
theorem sk_72 : SK[72]? = some (0, 6, []) := by rw [SK_eq]; rfl
theorem sk_73 : SK[73]? = some (0, 6, []) := by rw [SK_eq]; rfl
theorem sk_74 : SK[74]? = some (17, 7, [75, 76]) := by rw [SK_eq]; rfl
theorem sk_75 : SK[75]? = some (0, 6, []) := by rw [SK_eq]; rfl
theorem sk_76 : SK[76]? = some (0, 6, []) := by rw [SK_eq]; rfl
theorem sk_77 : SK[77]? = some (17, 7, [78, 79]) := by rw [SK_eq]; rfl
theorem sk_78 : SK[78]? = some (0, 6, []) := by rw [SK_eq]; rfl
theorem sk_79 : SK[79]? = some (0, 6, []) := by rw [SK_eq]; rfl
theorem sk_80 : SK[80]? = some (17, 7, [81, 82]) := by rw [SK_eq]; rfl
theorem sk_81 : SK[81]? = some (0, 6, []) := by rw [SK_eq]; rfl
theorem sk_82 : SK[82]? = some (0, 6, []) := by rw [SK_eq]; rfl
theorem sk_83 : SK[83]? = some (15, 1, [84]) := by rw [SK_eq]; rfl
theorem sk_84 : SK[84]? = some (4, 6, [85, 88, 91, 94, 97, 100]) := by rw [SK_eq]; rfl
theorem sk_85 : SK[85]? = some (17, 7, [86, 87]) := by rw [SK_eq]; rfl
theorem sk_86 : SK[86]? = some (0, 6, []) := by rw [SK_eq]; rfl
theorem sk_87 : SK[87]? = some (0, 6, []) := by rw [SK_eq]; rfl
theorem sk_88 : SK[88]? = some (17, 7, [89, 90]) := by rw [SK_eq]; rfl
theorem sk_89 : SK[89]? = some (0, 6, []) := by rw [SK_eq]; rfl
theorem sk_90 : SK[90]? = some (0, 6, []) := by rw [SK_eq]; rfl
theorem sk_91 : SK[91]? = some (17, 7, [92, 93]) := by rw [SK_eq]; rfl
theorem sk_92 : SK[92]? = some (0, 6, []) := by rw [SK_eq]; rfl
theorem sk_93 : SK[93]? = some (0, 6, []) := by rw [SK_eq]; rfl
theorem sk_94 : SK[94]? = some (17, 7, [95, 96]) := by rw [SK_eq]; rfl
theorem sk_95 : SK[95]? = some (0, 6, []) := by rw [SK_eq]; rfl
theorem sk_96 : SK[96]? = some (0, 6, []) := by rw [SK_eq]; rfl
theorem sk_97 : SK[97]? = some (17, 7, [98, 99]) := by rw [SK_eq]; rfl
theorem sk_98 : SK[98]? = some (0, 6, []) := by rw [SK_eq]; rfl
theorem sk_99 : SK[99]? = some (0, 6, []) := by rw [SK_eq]; rfl
theorem sk_100 : SK[100]? = some (17, 7, [101, 102]) := by rw [SK_eq]; rfl
theorem sk_101 : SK[101]? = some (0, 6, []) := by rw [SK_eq]; rfl
theorem sk_102 : SK[102]? = some (0, 6, []) := by rw [SK_eq]; rfl
theorem sk_103 : SK[103]? = some (15, 1, [104]) := by rw [SK_eq]; rfl
theorem sk_104 : SK[104]? = some (4, 6, [105, 108, 111, 114, 117, 120]) := by rw [SK_eq]; rfl
theorem sk_105 : SK[105]? = some (17, 7, [106, 107]) := by rw [SK_eq]; rfl
theorem sk_106 : SK[106]? = some (0, 6, []) := by rw [SK_eq]; rfl
theorem sk_107 : SK[107]? = some (0, 6, []) := by rw [SK_eq]; rfl
theorem sk_108 : SK[108]? = some (17, 7, [109, 110]) := by rw [SK_eq]; rfl
theorem sk_109 : SK[109]? = some (0, 6, []) := by rw [SK_eq]; rfl
theorem sk_110 : SK[110]? = some (0, 6, []) := by rw [SK_eq]; rfl
theorem sk_111 : SK[111]? = some (17, 7, [112, 113]) := by rw [SK_eq]; rfl
theorem sk_112 : SK[112]? = some (0, 6, []) := by rw [SK_eq]; rfl
theorem sk_113 : SK[113]? = some (0, 6, []) := by rw [SK_eq]; rfl
theorem sk_114 : SK[114]? = some (17, 7, [115, 116]) := by rw [SK_eq]; rfl
theorem sk_115 : SK[115]? = some (0, 6, []) := by rw [SK_eq]; rfl
theorem sk_116 : SK[116]? = some (0, 6, []) := by rw [SK_eq]; rfl
theorem sk_117 : SK[117]? = some (17, 7, [118, 119]) := by rw [SK_eq]; rfl
theorem sk_118 : SK[118]? = some (0, 6, []) := by rw [SK_eq]; rfl
theorem sk_119 : SK[119]? = some (0, 6, []) := by rw [SK_eq]; rfl
theorem sk_120 : SK[120]? = some (17, 7, [121, 122]) := by rw [SK_eq]; rfl
theorem sk_121 : SK[121]? = some (0, 6, []) := by rw [SK_eq]; rfl
theorem sk_122 : SK[122]? = some (0, 6, []) := by rw [SK_eq]; rfl
theorem sk_123 : SK[123]? = some (15, 1, [124]) := by rw [SK_eq]; rfl
theorem sk_124 : SK[124]? = some (4, 6, [125, 128, 131, 134, 137, 140]) := by rw [SK_eq]; rfl
theorem sk_125 : SK[125]? = some (17, 7, [126, 127]) := by rw [SK_eq]; rfl
theorem sk_126 : SK[126]? = some (0, 6, []) := by rw [SK_eq]; rfl
theorem sk_127 : SK[127]? = some (0, 6, []) := by rw [SK_eq]; rfl
theorem sk_128 : SK[128]? = some (17, 7, [129, 130]) := by rw [SK_eq]; rfl
theorem sk_129 : SK[129]? = some (0, 6, []) := by rw [SK_eq]; rfl
theorem sk_130 : SK[130]? = some (0, 6, []) := by rw [SK_eq]; rfl
theorem sk_131 : SK[131]? = some (17, 7, [132, 133]) := by rw [SK_eq]; rfl
theorem sk_132 : SK[132]? = some (0, 6, []) := by rw [SK_eq]; rfl
theorem sk_133 : SK[133]? = some (0, 6, []) := by rw [SK_eq]; rfl
theorem sk_134 : SK[134]? = some (17, 7, [135, 136]) := by rw [SK_eq]; rfl
theorem sk_135 : SK[135]? = some (0, 6, []) := by rw [SK_eq]; rfl
theorem sk_136 : SK[136]? = some (0, 6, []) := by rw [SK_eq]; rfl
theorem sk_137 : SK[137]? = some (17, 7, [138, 139]) := by rw [SK_eq]; rfl
theorem sk_138 : SK[138]? = some (0, 6, []) := by rw [SK_eq]; rfl
theorem sk_139 : SK[139]? = some (0, 6, []) := by rw [SK_eq]; rfl
theorem sk_140 : SK[140]? = some (17, 7, [141, 142]) := by rw [SK_eq]; rfl
theorem sk_141 : SK[141]? = some (0, 6, []) := by rw [SK_eq]; rfl
theorem sk_142 : SK[142]? = some (0, 6, []) := by rw [SK_eq]; rfl
theorem sk_143 : SK[143]? = some (3, 2, [163, 183]) := by rw [SK_eq]; rfl
theorem sk_144 : SK[144]? = some (2, 2, []) := by rw [SK_eq]; rfl
theorem sk_145 : SK[145]? = some (18, 9, [146]) := by rw [SK_eq]; rfl
theorem sk_146 : SK[146]? = some (0, 100, []) := by rw [SK_eq]; rfl
theorem sk_147 : SK[147]? = some (16, 3, [148, 149]) := by rw [SK_eq]; rfl
theorem sk_148 : SK[148]? = some (0, 6, []) := by rw [SK_eq]; rfl
theorem sk_149 : SK[149]? = some (1, 6, []) := by rw [SK_eq]; rfl
theorem sk_150 : SK[150]? = some (17, 7, [151, 152]) := by rw [SK_eq]; rfl
theorem sk_151 : SK[151]? = some (0, 6, []) := by rw [SK_eq]; rfl
theorem sk_152 : SK[152]? = some (0, 6, []) := by rw [SK_eq]; rfl
theorem sk_153 : SK[153]? = some (12, 4, [154, 155]) := by rw [SK_eq]; rfl
theorem sk_154 : SK[154]? = some (1, 6, []) := by rw [SK_eq]; rfl
theorem sk_155 : SK[155]? = some (1, 8, []) := by rw [SK_eq]; rfl
theorem sk_156 : SK[156]? = some (10, 2, []) := by rw [SK_eq]; rfl
theorem sk_157 : SK[157]? = some (14, 3, [158, 159, 160]) := by rw [SK_eq]; rfl
theorem sk_158 : SK[158]? = some (1, 6, []) := by rw [SK_eq]; rfl
theorem sk_159 : SK[159]? = some (1, 6, []) := by rw [SK_eq]; rfl
theorem sk_160 : SK[160]? = some (1, 6, []) := by rw [SK_eq]; rfl
theorem sk_161 : SK[161]? = some (13, 2, []) := by rw [SK_eq]; rfl
theorem sk_162 : SK[162]? = some (1, 6, []) := by rw [SK_eq]; rfl
theorem sk_163 : SK[163]? = some (15, 1, [164]) := by rw [SK_eq]; rfl
theorem sk_164 : SK[164]? = some (4, 6, [165, 168, 171, 174, 177, 180]) := by rw [SK_eq]; rfl
theorem sk_165 : SK[165]? = some (17, 7, [166, 167]) := by rw [SK_eq]; rfl
theorem sk_166 : SK[166]? = some (0, 6, []) := by rw [SK_eq]; rfl
theorem sk_167 : SK[167]? = some (0, 6, []) := by rw [SK_eq]; rfl
theorem sk_168 : SK[168]? = some (17, 7, [169, 170]) := by rw [SK_eq]; rfl
theorem sk_169 : SK[169]? = some (0, 6, []) := by rw [SK_eq]; rfl
theorem sk_170 : SK[170]? = some (0, 6, []) := by rw [SK_eq]; rfl
theorem sk_171 : SK[171]? = some (17, 7, [172, 173]) := by rw [SK_eq]; rfl
theorem sk_172 : SK[172]? = some (0, 6, []) := by rw [SK_eq]; rfl
theorem sk_173 : SK[173]? = some (0, 6, []) := by rw [SK_eq]; rfl
theorem sk_174 : SK[174]? = some (17, 7, [175, 176]) := by rw [SK_eq]; rfl
theorem sk_175 : SK[175]? = some (0, 6, []) := by rw [SK_eq]; rfl
theorem sk_176 : SK[176]? = some (0, 6, []) := by rw [SK_eq]; rfl
theorem sk_177 : SK[177]? = some (17, 7, [178, 179]) := by rw [SK_eq]; rfl
theorem sk_178 : SK[178]? = some (0, 6, []) := by rw [SK_eq]; rfl
theorem sk_179 : SK[179]? = some (0, 6, []) := by rw [SK_eq]; rfl
theorem sk_180 : SK[180]? = some (17, 7, [181, 182]) := by rw [SK_eq]; rfl
theorem sk_181 : SK[181]? = some (0, 6, []) := by rw [SK_eq]; rfl
theorem sk_182 : SK[182]? = some (0, 6, []) := by rw [SK_eq]; rfl
theorem sk_183 : SK[183]? = some (15, 1, [184]) := by rw [SK_eq]; rfl
theorem sk_184 : SK[184]? = some (4, 6, [185, 188, 191, 194, 197, 200]) := by rw [SK_eq]; rfl
theorem sk_185 : SK[185]? = some (17, 7, [186, 187]) := by rw [SK_eq]; rfl
theorem sk_186 : SK[186]? = some (0, 6, []) := by rw [SK_eq]; rfl
theorem sk_187 : SK[187]? = some (0, 6, []) := by rw [SK_eq]; rfl
theorem sk_188 : SK[188]? = some (17, 7, [189, 190]) := by rw [SK_eq]; rfl
theorem sk_189 : SK[189]? = some (0, 6, []) := by rw [SK_eq]; rfl
theorem sk_190 : SK[190]? = some (0, 6, []) := by rw [SK_eq]; rfl
theorem sk_191 : SK[191]? = some (17, 7, [192, 193]) := by rw [SK_eq]; rfl
theorem sk_192 : SK[192]? = some (0, 6, []) := by rw [SK_eq]; rfl
theorem sk_193 : SK[193]? = some (0, 6, []) := by rw [SK_eq]; rfl
theorem sk_194 : SK[194]? = some (17, 7, [195, 196]) := by rw [SK_eq]; rfl
theorem sk_195 : SK[195]? = some (0, 6, []) := by rw [SK_eq]; rfl
theorem sk_196 : SK[196]? = some (0, 6, []) := by rw [SK_eq]; rfl
theorem sk_197 : SK[197]? = some (17, 7, [198, 199]) := by rw [SK_eq]; rfl
theorem sk_198 : SK[198]? = some (0, 6, []) := by rw [SK_eq]; rfl
theorem sk_199 : SK[199]? = some (0, 6, []) := by rw [SK_eq]; rfl
theorem sk_200 : SK[200]? = some (17, 7, [201, 202]) := by rw [SK_eq]; rfl
theorem sk_201 : SK[201]? = some (0, 6, []) := by rw [SK_eq]; rfl
theorem sk_202 : SK[202]? = some (0, 6, []) := by rw [SK_eq]; rfl
theorem sk_203 : SK[203]? = some (20, 32, [204, 205, 206, 207, 208, 209, 210, 211, 212, 213, 214, 215, 216, 217, 218]) := by rw [SK_eq]; rfl
theorem sk_204 : SK[204]? = some (0, 96, []) := by rw [SK_eq]; rfl
theorem sk_205 : SK[205]? = some (0, 576, []) := by rw [SK_eq]; rfl
theorem sk_206 : SK[206]? = some (0, 192, []) := by rw [SK_eq]; rfl
theorem sk_207 : SK[207]? = some (2, 2, []) := by rw [SK_eq]; rfl
theorem sk_208 : SK[208]? = some (0, 20, []) := by rw [SK_eq]; rfl
theorem sk_209 : SK[209]? = some (0, 20, []) := by rw [SK_eq]; rfl
theorem sk_210 : SK[210]? = some (0, 100, []) := by rw [SK_eq]; rfl
theorem sk_211 : SK[211]? = some (1, 8, []) := by rw [SK_eq]; rfl
theorem sk_212 : SK[212]? = some (0, 64, []) := by rw [SK_eq]; rfl
theorem sk_213 : SK[213]? = some (0, 8, []) := by rw [SK_eq]; rfl
theorem sk_214 : SK[214]? = some (1, 12, []) := by rw [SK_eq]; rfl
theorem sk_215 : SK[215]? = some (1, 12, []) := by rw [SK_eq]; rfl
theorem sk_216 : SK[216]? = some (0, 6, []) := by rw [SK_eq]; rfl
theorem sk_217 : SK[217]? = some (1, 6, []) := by rw [SK_eq]; rfl
theorem sk_218 : SK[218]? = some (1, 6, []) := by rw [SK_eq]; rfl
def cell (s : Nat × Nat × List Nat) (w : Int → Int) : va_E := match s with
  | (0, n, _) => .inl (0, n, .inl (fun j => Int32.ofInt (w j)))
  | (1, n, _) => .inl (1, n, .inr (.inl (fun j => Int64.ofInt (w j))))
  | (2, n, _) => .inl (2, n, .inl (fun j => Int32.ofInt (w j)))
  | (3, n, rs) => .inl (3, n, .inr (.inr (.inr (.inr (fun j => rs[j]?)))))
  | (4, n, rs) => .inl (4, n, .inr (.inr (.inr (.inr (fun j => rs[j]?)))))
  | (10, _, []) => .inr (0, [vl (w 0), vl (w 1)])
  | (11, _, [a0]) => .inr (1, [.ref a0, vi (w 1), vi (w 2)])
  | (12, _, [a0, a1]) => .inr (2, [.ref a0, .ref a1, vi (w 2), vi (w 3)])
  | (13, _, []) => .inr (3, [vl (w 0), vl (w 1)])
  | (14, _, [a0, a1, a2]) => .inr (4, [.ref a0, .ref a1, .ref a2])
  | (15, _, [a0]) => .inr (5, [.ref a0])
  | (16, _, [a0, a1]) => .inr (6, [.ref a0, .ref a1, vi (w 2)])
  | (17, _, [a0, a1]) => .inr (7, [vi (w 0), vi (w 1), vi (w 2), vi (w 3), vi (w 4), .ref a0, .ref a1])
  | (18, _, [a0]) => .inr (8, [.ref a0, vi (w 1), vi (w 2), vi (w 3), vi (w 4), vi (w 5), vi (w 6), vi (w 7), vi (w 8)])
  | (19, _, [a0, a1, a2, a3, a4, a5, a6, a7, a8, a9, a10, a11]) => .inr (9, [.ref a0, .ref a1, .ref a2, .ref a3, .ref a4, .ref a5, .ref a6, .ref a7, .ref a8, .ref a9, .ref a10, .ref a11])
  | (20, _, [a0, a1, a2, a3, a4, a5, a6, a7, a8, a9, a10, a11, a12, a13, a14]) => .inr (10, [.ref a0, .ref a1, vi (w 2), .ref a2, .ref a3, vi (w 5), vi (w 6), vi (w 7), vi (w 8), .ref a4, .ref a5, .ref a6, vi (w 12), vi (w 13), vi (w 14), vi (w 15), vi (w 16), vi (w 17), vl (w 18), vl (w 19), .ref a7, vi (w 21), .ref a8, .ref a9, .ref a10, .ref a11, vl (w 26), vl (w 27), vi (w 28), .ref a12, .ref a13, .ref a14])
  | _ => .inr (0, [])
theorem Hp_ex (μ : Mem) : ∃ M : HV, M = SK.mapIdx (fun r s => cell s (μ r)) := ⟨_, rfl⟩
noncomputable def Hp (μ : Mem) : HV := Classical.choose (Hp_ex μ)
theorem Hp_eq (μ : Mem) : Hp μ = SK.mapIdx (fun r s => cell s (μ r)) := Classical.choose_spec (Hp_ex μ)
def up (μ : Mem) (r : Nat) (i x : Int) : Mem := fun a j => if a = r ∧ j = i then x else μ a j
theorem Hp_get {μ : Mem} {r : Nat} {s : Nat × Nat × List Nat} (h : SK[r]? = some s) : (Hp μ)[r]? = some (cell s (μ r)) := by simp [Hp_eq, List.getElem?_mapIdx, h]
theorem Hp_len (μ : Mem) : (Hp μ).length = SK.length := by simp [Hp_eq]
theorem Hp_set {μ μ' : Mem} {r : Nat} {s : Nat × Nat × List Nat} (h : SK[r]? = some s) (hm : ∀ a, a ≠ r → μ' a = μ a) : (Hp μ).set r (cell s (μ' r)) = Hp μ' := by
  apply List.ext_getElem?
  intro i
  have hr : r < SK.length := (List.getElem?_eq_some_iff.mp h).1
  by_cases e : r = i
  · subst e
    rw [List.getElem?_set_self (by rw [Hp_len]; exact hr), Hp_get h]
  · rw [List.getElem?_set_ne e]
    simp only [Hp_eq, List.getElem?_mapIdx]
    rw [hm i (fun q => e q.symm)]
theorem up_ne {μ : Mem} {r : Nat} {i x : Int} : ∀ a, a ≠ r → up μ r i x a = μ a := fun a h => by funext j; simp [up, h]
theorem up_at {μ : Mem} {r : Nat} {i x : Int} : up μ r i x r i = x := by simp [up]
theorem up_r (μ : Mem) (r : Nat) (i x : Int) (j : Int) : up μ r i x r j = if j = i then x else μ r j := by simp [up]
section HPR
variable {G : GT} {y : MI} {Z : ZT} {k n pc : Nat} {ls st : List Value} {μ : Mem}
theorem H_iald {r N : Nat} {rs : List Nat} {i : Int} (hs : SK[r]? = some (0, N, rs)) (hd : decode (iC y) pc = .ok (.iaload, 1)) (h : E G y Z k n (pc + 1) ls (vi (μ r i) :: st) (Hp μ)) (h0 : 0 ≤ i := by omega) (h1 : i < N := by omega) (h2 : i < 2147483648 := by omega) : E G y Z k n pc ls (vi i :: .ref r :: st) (Hp μ) :=
  E_iald hd (Hp_get hs) h0 h1 h2 (by rw [show ((i.toNat : Nat) : Int) = i by omega]; exact h)
theorem H_lald {r N : Nat} {rs : List Nat} {i : Int} (hs : SK[r]? = some (1, N, rs)) (hd : decode (iC y) pc = .ok (.laload, 1)) (h : E G y Z k n (pc + 1) ls (vl (μ r i) :: st) (Hp μ)) (h0 : 0 ≤ i := by omega) (h1 : i < N := by omega) (h2 : i < 2147483648 := by omega) : E G y Z k n pc ls (vi i :: .ref r :: st) (Hp μ) :=
  E_lald hd (Hp_get hs) h0 h1 h2 (by rw [show ((i.toNat : Nat) : Int) = i by omega]; exact h)
theorem H_zald {r N : Nat} {rs : List Nat} {i : Int} (hs : SK[r]? = some (2, N, rs)) (hd : decode (iC y) pc = .ok (.baload, 1)) (h : E G y Z k n (pc + 1) ls (vi (μ r i) :: st) (Hp μ)) (h0 : 0 ≤ i := by omega) (h1 : i < N := by omega) (h2 : i < 2147483648 := by omega) : E G y Z k n pc ls (vi i :: .ref r :: st) (Hp μ) :=
  E_zald hd (Hp_get hs) h0 h1 h2 (by rw [show ((i.toNat : Nat) : Int) = i by omega]; exact h)
theorem H_aald3 {r N a : Nat} {rs : List Nat} {i : Int} (hs : SK[r]? = some (3, N, rs)) (hd : decode (iC y) pc = .ok (.aaload, 1)) (ha : rs[i.toNat]? = some a) (h : E G y Z k n (pc + 1) ls (.ref a :: st) (Hp μ)) (h0 : 0 ≤ i := by omega) (h1 : i < N := by omega) (h2 : i < 2147483648 := by omega) : E G y Z k n pc ls (vi i :: .ref r :: st) (Hp μ) :=
  E_aald hd (Hp_get hs) rfl h0 h1 h2 ha h
theorem H_aald4 {r N a : Nat} {rs : List Nat} {i : Int} (hs : SK[r]? = some (4, N, rs)) (hd : decode (iC y) pc = .ok (.aaload, 1)) (ha : rs[i.toNat]? = some a) (h : E G y Z k n (pc + 1) ls (.ref a :: st) (Hp μ)) (h0 : 0 ≤ i := by omega) (h1 : i < N := by omega) (h2 : i < 2147483648 := by omega) : E G y Z k n pc ls (vi i :: .ref r :: st) (Hp μ) :=
  E_aald hd (Hp_get hs) rfl h0 h1 h2 ha h
theorem up_row32 {μ : Mem} {r : Nat} {i x : Int} (h0 : 0 ≤ i) : (fun j : Nat => Int32.ofInt (up μ r i x r j)) = upd (fun j : Nat => Int32.ofInt (μ r j)) i.toNat (Int32.ofInt x) := by
  funext j
  by_cases h : j = i.toNat
  · subst h
    rw [pk_us, up_r, if_pos (by omega)]
  · rw [pk_un h, up_r, if_neg (by omega)]
theorem up_row64 {μ : Mem} {r : Nat} {i x : Int} (h0 : 0 ≤ i) : (fun j : Nat => Int64.ofInt (up μ r i x r j)) = vp_updL (fun j : Nat => Int64.ofInt (μ r j)) i.toNat (Int64.ofInt x) := by
  funext j
  by_cases h : j = i.toNat
  · subst h
    rw [pk_uLs, up_r, if_pos (by omega)]
  · rw [pk_uLn h, up_r, if_neg (by omega)]
theorem H_iast {r N : Nat} {rs : List Nat} {i x : Int} (hs : SK[r]? = some (0, N, rs)) (hd : decode (iC y) pc = .ok (.iastore, 1)) (h : E G y Z k n (pc + 1) ls st (Hp (up μ r i x))) (h0 : 0 ≤ i := by omega) (h1 : i < N := by omega) (h2 : i < 2147483648 := by omega) : E G y Z k n pc ls (vi x :: vi i :: .ref r :: st) (Hp μ) := by
  refine E_iast hd (Hp_get hs) h0 h1 h2 ?_
  rw [← up_row32 h0]
  rw [← Hp_set hs up_ne] at h
  exact h
theorem H_last {r N : Nat} {rs : List Nat} {i x : Int} (hs : SK[r]? = some (1, N, rs)) (hd : decode (iC y) pc = .ok (.lastore, 1)) (h : E G y Z k n (pc + 1) ls st (Hp (up μ r i x))) (h0 : 0 ≤ i := by omega) (h1 : i < N := by omega) (h2 : i < 2147483648 := by omega) : E G y Z k n pc ls (vl x :: vi i :: .ref r :: st) (Hp μ) := by
  refine E_last hd (Hp_get hs) h0 h1 h2 ?_
  rw [← up_row64 h0]
  rw [← Hp_set hs up_ne] at h
  exact h
theorem H_zast {r N : Nat} {rs : List Nat} {i x : Int} (hs : SK[r]? = some (2, N, rs)) (hd : decode (iC y) pc = .ok (.bastore, 1)) (hx : x = 0 ∨ x = 1) (h : E G y Z k n (pc + 1) ls st (Hp (up μ r i x))) (h0 : 0 ≤ i := by omega) (h1 : i < N := by omega) (h2 : i < 2147483648 := by omega) : E G y Z k n pc ls (vi x :: vi i :: .ref r :: st) (Hp μ) := by
  refine E_zast hd (Hp_get hs) h0 h1 h2 hx ?_
  rw [← up_row32 h0]
  rw [← Hp_set hs up_ne] at h
  exact h
theorem H_alen1 {r N : Nat} {rs : List Nat} (hs : SK[r]? = some (1, N, rs)) (hd : decode (iC y) pc = .ok (.arraylength, 1)) (h : E G y Z k n (pc + 1) ls (vi N :: st) (Hp μ)) : E G y Z k n pc ls (.ref r :: st) (Hp μ) :=
  E_alen hd (Hp_get hs) rfl h
theorem flX10_10 : Cond.fieldLink RX10 10 (TX10 0).1 (TX10 0).2.1 (TX10 0).2.2.1 ∈ lw_ok := lw_in (List.mem_of_getElem? (i := 296) (by decide +kernel)) rfl
theorem GX10_10 {r nn : Nat} {a0 a1 a2 a3 a4 a5 a6 a7 a8 a9 a10 a11 : Nat} (hs : SK[r]? = some (19, nn, [a0, a1, a2, a3, a4, a5, a6, a7, a8, a9, a10, a11])) (hd : decode (iC y) pc = .ok (.getfield 10, 3)) (h : E G y Z k n (pc + 3) ls (.ref a0 :: st) (Hp μ)) (ho : (iY y).cls = RX10 := by rfl) : E G y Z k n pc ls (.ref r :: st) (Hp μ) :=
  E_get (ci := 9) (kf := 0) hd rfl inX10 (by decide) (by rw [ho]; exact flX10_10) (Hp_get hs) rfl h
theorem flX10_19 : Cond.fieldLink RX10 19 (TX10 1).1 (TX10 1).2.1 (TX10 1).2.2.1 ∈ lw_ok := lw_in (List.mem_of_getElem? (i := 297) (by decide +kernel)) rfl
theorem GX10_19 {r nn : Nat} {a0 a1 a2 a3 a4 a5 a6 a7 a8 a9 a10 a11 : Nat} (hs : SK[r]? = some (19, nn, [a0, a1, a2, a3, a4, a5, a6, a7, a8, a9, a10, a11])) (hd : decode (iC y) pc = .ok (.getfield 19, 3)) (h : E G y Z k n (pc + 3) ls (.ref a1 :: st) (Hp μ)) (ho : (iY y).cls = RX10 := by rfl) : E G y Z k n pc ls (.ref r :: st) (Hp μ) :=
  E_get (ci := 9) (kf := 1) hd rfl inX10 (by decide) (by rw [ho]; exact flX10_19) (Hp_get hs) rfl h
theorem flX10_23 : Cond.fieldLink RX10 23 (TX10 2).1 (TX10 2).2.1 (TX10 2).2.2.1 ∈ lw_ok := lw_in (List.mem_of_getElem? (i := 298) (by decide +kernel)) rfl
theorem GX10_23 {r nn : Nat} {a0 a1 a2 a3 a4 a5 a6 a7 a8 a9 a10 a11 : Nat} (hs : SK[r]? = some (19, nn, [a0, a1, a2, a3, a4, a5, a6, a7, a8, a9, a10, a11])) (hd : decode (iC y) pc = .ok (.getfield 23, 3)) (h : E G y Z k n (pc + 3) ls (.ref a2 :: st) (Hp μ)) (ho : (iY y).cls = RX10 := by rfl) : E G y Z k n pc ls (.ref r :: st) (Hp μ) :=
  E_get (ci := 9) (kf := 2) hd rfl inX10 (by decide) (by rw [ho]; exact flX10_23) (Hp_get hs) rfl h
theorem flX10_27 : Cond.fieldLink RX10 27 (TX10 3).1 (TX10 3).2.1 (TX10 3).2.2.1 ∈ lw_ok := lw_in (List.mem_of_getElem? (i := 299) (by decide +kernel)) rfl
theorem GX10_27 {r nn : Nat} {a0 a1 a2 a3 a4 a5 a6 a7 a8 a9 a10 a11 : Nat} (hs : SK[r]? = some (19, nn, [a0, a1, a2, a3, a4, a5, a6, a7, a8, a9, a10, a11])) (hd : decode (iC y) pc = .ok (.getfield 27, 3)) (h : E G y Z k n (pc + 3) ls (.ref a3 :: st) (Hp μ)) (ho : (iY y).cls = RX10 := by rfl) : E G y Z k n pc ls (.ref r :: st) (Hp μ) :=
  E_get (ci := 9) (kf := 3) hd rfl inX10 (by decide) (by rw [ho]; exact flX10_27) (Hp_get hs) rfl h
theorem flX10_34 : Cond.fieldLink RX10 34 (TX10 4).1 (TX10 4).2.1 (TX10 4).2.2.1 ∈ lw_ok := lw_in (List.mem_of_getElem? (i := 300) (by decide +kernel)) rfl
theorem GX10_34 {r nn : Nat} {a0 a1 a2 a3 a4 a5 a6 a7 a8 a9 a10 a11 : Nat} (hs : SK[r]? = some (19, nn, [a0, a1, a2, a3, a4, a5, a6, a7, a8, a9, a10, a11])) (hd : decode (iC y) pc = .ok (.getfield 34, 3)) (h : E G y Z k n (pc + 3) ls (.ref a4 :: st) (Hp μ)) (ho : (iY y).cls = RX10 := by rfl) : E G y Z k n pc ls (.ref r :: st) (Hp μ) :=
  E_get (ci := 9) (kf := 4) hd rfl inX10 (by decide) (by rw [ho]; exact flX10_34) (Hp_get hs) rfl h
theorem flX10_41 : Cond.fieldLink RX10 41 (TX10 5).1 (TX10 5).2.1 (TX10 5).2.2.1 ∈ lw_ok := lw_in (List.mem_of_getElem? (i := 301) (by decide +kernel)) rfl
theorem GX10_41 {r nn : Nat} {a0 a1 a2 a3 a4 a5 a6 a7 a8 a9 a10 a11 : Nat} (hs : SK[r]? = some (19, nn, [a0, a1, a2, a3, a4, a5, a6, a7, a8, a9, a10, a11])) (hd : decode (iC y) pc = .ok (.getfield 41, 3)) (h : E G y Z k n (pc + 3) ls (.ref a5 :: st) (Hp μ)) (ho : (iY y).cls = RX10 := by rfl) : E G y Z k n pc ls (.ref r :: st) (Hp μ) :=
  E_get (ci := 9) (kf := 5) hd rfl inX10 (by decide) (by rw [ho]; exact flX10_41) (Hp_get hs) rfl h
theorem flX10_48 : Cond.fieldLink RX10 48 (TX10 6).1 (TX10 6).2.1 (TX10 6).2.2.1 ∈ lw_ok := lw_in (List.mem_of_getElem? (i := 302) (by decide +kernel)) rfl
theorem GX10_48 {r nn : Nat} {a0 a1 a2 a3 a4 a5 a6 a7 a8 a9 a10 a11 : Nat} (hs : SK[r]? = some (19, nn, [a0, a1, a2, a3, a4, a5, a6, a7, a8, a9, a10, a11])) (hd : decode (iC y) pc = .ok (.getfield 48, 3)) (h : E G y Z k n (pc + 3) ls (.ref a6 :: st) (Hp μ)) (ho : (iY y).cls = RX10 := by rfl) : E G y Z k n pc ls (.ref r :: st) (Hp μ) :=
  E_get (ci := 9) (kf := 6) hd rfl inX10 (by decide) (by rw [ho]; exact flX10_48) (Hp_get hs) rfl h
theorem flX10_55 : Cond.fieldLink RX10 55 (TX10 7).1 (TX10 7).2.1 (TX10 7).2.2.1 ∈ lw_ok := lw_in (List.mem_of_getElem? (i := 303) (by decide +kernel)) rfl
theorem GX10_55 {r nn : Nat} {a0 a1 a2 a3 a4 a5 a6 a7 a8 a9 a10 a11 : Nat} (hs : SK[r]? = some (19, nn, [a0, a1, a2, a3, a4, a5, a6, a7, a8, a9, a10, a11])) (hd : decode (iC y) pc = .ok (.getfield 55, 3)) (h : E G y Z k n (pc + 3) ls (.ref a7 :: st) (Hp μ)) (ho : (iY y).cls = RX10 := by rfl) : E G y Z k n pc ls (.ref r :: st) (Hp μ) :=
  E_get (ci := 9) (kf := 7) hd rfl inX10 (by decide) (by rw [ho]; exact flX10_55) (Hp_get hs) rfl h
theorem flX10_62 : Cond.fieldLink RX10 62 (TX10 8).1 (TX10 8).2.1 (TX10 8).2.2.1 ∈ lw_ok := lw_in (List.mem_of_getElem? (i := 304) (by decide +kernel)) rfl
theorem GX10_62 {r nn : Nat} {a0 a1 a2 a3 a4 a5 a6 a7 a8 a9 a10 a11 : Nat} (hs : SK[r]? = some (19, nn, [a0, a1, a2, a3, a4, a5, a6, a7, a8, a9, a10, a11])) (hd : decode (iC y) pc = .ok (.getfield 62, 3)) (h : E G y Z k n (pc + 3) ls (.ref a8 :: st) (Hp μ)) (ho : (iY y).cls = RX10 := by rfl) : E G y Z k n pc ls (.ref r :: st) (Hp μ) :=
  E_get (ci := 9) (kf := 8) hd rfl inX10 (by decide) (by rw [ho]; exact flX10_62) (Hp_get hs) rfl h
theorem flX10_69 : Cond.fieldLink RX10 69 (TX10 9).1 (TX10 9).2.1 (TX10 9).2.2.1 ∈ lw_ok := lw_in (List.mem_of_getElem? (i := 305) (by decide +kernel)) rfl
theorem GX10_69 {r nn : Nat} {a0 a1 a2 a3 a4 a5 a6 a7 a8 a9 a10 a11 : Nat} (hs : SK[r]? = some (19, nn, [a0, a1, a2, a3, a4, a5, a6, a7, a8, a9, a10, a11])) (hd : decode (iC y) pc = .ok (.getfield 69, 3)) (h : E G y Z k n (pc + 3) ls (.ref a9 :: st) (Hp μ)) (ho : (iY y).cls = RX10 := by rfl) : E G y Z k n pc ls (.ref r :: st) (Hp μ) :=
  E_get (ci := 9) (kf := 9) hd rfl inX10 (by decide) (by rw [ho]; exact flX10_69) (Hp_get hs) rfl h
theorem flX10_76 : Cond.fieldLink RX10 76 (TX10 10).1 (TX10 10).2.1 (TX10 10).2.2.1 ∈ lw_ok := lw_in (List.mem_of_getElem? (i := 306) (by decide +kernel)) rfl
theorem GX10_76 {r nn : Nat} {a0 a1 a2 a3 a4 a5 a6 a7 a8 a9 a10 a11 : Nat} (hs : SK[r]? = some (19, nn, [a0, a1, a2, a3, a4, a5, a6, a7, a8, a9, a10, a11])) (hd : decode (iC y) pc = .ok (.getfield 76, 3)) (h : E G y Z k n (pc + 3) ls (.ref a10 :: st) (Hp μ)) (ho : (iY y).cls = RX10 := by rfl) : E G y Z k n pc ls (.ref r :: st) (Hp μ) :=
  E_get (ci := 9) (kf := 10) hd rfl inX10 (by decide) (by rw [ho]; exact flX10_76) (Hp_get hs) rfl h
theorem flX10_80 : Cond.fieldLink RX10 80 (TX10 11).1 (TX10 11).2.1 (TX10 11).2.2.1 ∈ lw_ok := lw_in (List.mem_of_getElem? (i := 307) (by decide +kernel)) rfl
theorem GX10_80 {r nn : Nat} {a0 a1 a2 a3 a4 a5 a6 a7 a8 a9 a10 a11 : Nat} (hs : SK[r]? = some (19, nn, [a0, a1, a2, a3, a4, a5, a6, a7, a8, a9, a10, a11])) (hd : decode (iC y) pc = .ok (.getfield 80, 3)) (h : E G y Z k n (pc + 3) ls (.ref a11 :: st) (Hp μ)) (ho : (iY y).cls = RX10 := by rfl) : E G y Z k n pc ls (.ref r :: st) (Hp μ) :=
  E_get (ci := 9) (kf := 11) hd rfl inX10 (by decide) (by rw [ho]; exact flX10_80) (Hp_get hs) rfl h
theorem flX10_84 : Cond.fieldLink RX10 84 (TX9 1).1 (TX9 1).2.1 (TX9 1).2.2.1 ∈ lw_ok := lw_in (List.mem_of_getElem? (i := 180) (by decide +kernel)) rfl
theorem GX10_84 {r nn : Nat} {a0 : Nat} (hs : SK[r]? = some (18, nn, [a0])) (hd : decode (iC y) pc = .ok (.getfield 84, 3)) (h : E G y Z k n (pc + 3) ls (vi (μ r 1) :: st) (Hp μ)) (ho : (iY y).cls = RX10 := by rfl) : E G y Z k n pc ls (.ref r :: st) (Hp μ) :=
  E_get (ci := 8) (kf := 1) hd rfl inX9 (by decide) (by rw [ho]; exact flX10_84) (Hp_get hs) rfl h
theorem PX10_84 {r nn : Nat} {a0 : Nat} {x : Int} (hs : SK[r]? = some (18, nn, [a0])) (hd : decode (iC y) pc = .ok (.putfield 84, 3)) (h : E G y Z k n (pc + 3) ls st (Hp (up μ r 1 x))) (ho : (iY y).cls = RX10 := by rfl) : E G y Z k n pc ls (vi x :: .ref r :: st) (Hp μ) := by
  refine E_put (ci := 8) (kf := 1) (ty0 := tyX9) (ty := .int) hd rfl inX9 tyX9_ok nmX9 (by decide) (by rw [ho]; exact flX10_84) rfl (by decide +kernel) rfl rfl (Hp_get hs) (by simp) ?_
  rw [← Hp_set hs up_ne] at h
  simpa [cell, up] using h
theorem flX10_104 : Cond.fieldLink RX10 104 (TX6 0).1 (TX6 0).2.1 (TX6 0).2.2.1 ∈ lw_ok := lw_in (List.mem_of_getElem? (i := 148) (by decide +kernel)) rfl
theorem GX10_104 {r nn : Nat} {a0 : Nat} (hs : SK[r]? = some (15, nn, [a0])) (hd : decode (iC y) pc = .ok (.getfield 104, 3)) (h : E G y Z k n (pc + 3) ls (.ref a0 :: st) (Hp μ)) (ho : (iY y).cls = RX10 := by rfl) : E G y Z k n pc ls (.ref r :: st) (Hp μ) :=
  E_get (ci := 5) (kf := 0) hd rfl inX6 (by decide) (by rw [ho]; exact flX10_104) (Hp_get hs) rfl h
theorem flX10_120 : Cond.fieldLink RX10 120 (TX8 3).1 (TX8 3).2.1 (TX8 3).2.2.1 ∈ lw_ok := lw_in (List.mem_of_getElem? (i := 120) (by decide +kernel)) rfl
theorem GX10_120 {r nn : Nat} {a0 a1 : Nat} (hs : SK[r]? = some (17, nn, [a0, a1])) (hd : decode (iC y) pc = .ok (.getfield 120, 3)) (h : E G y Z k n (pc + 3) ls (vi (μ r 3) :: st) (Hp μ)) (ho : (iY y).cls = RX10 := by rfl) : E G y Z k n pc ls (.ref r :: st) (Hp μ) :=
  E_get (ci := 7) (kf := 3) hd rfl inX8 (by decide) (by rw [ho]; exact flX10_120) (Hp_get hs) rfl h
theorem PX10_120 {r nn : Nat} {a0 a1 : Nat} {x : Int} (hs : SK[r]? = some (17, nn, [a0, a1])) (hd : decode (iC y) pc = .ok (.putfield 120, 3)) (h : E G y Z k n (pc + 3) ls st (Hp (up μ r 3 x))) (ho : (iY y).cls = RX10 := by rfl) : E G y Z k n pc ls (vi x :: .ref r :: st) (Hp μ) := by
  refine E_put (ci := 7) (kf := 3) (ty0 := tyX8) (ty := .int) hd rfl inX8 tyX8_ok nmX8 (by decide) (by rw [ho]; exact flX10_120) rfl (by decide +kernel) rfl rfl (Hp_get hs) (by simp) ?_
  rw [← Hp_set hs up_ne] at h
  simpa [cell, up] using h
theorem flX10_151 : Cond.fieldLink RX10 151 (TX8 1).1 (TX8 1).2.1 (TX8 1).2.2.1 ∈ lw_ok := lw_in (List.mem_of_getElem? (i := 110) (by decide +kernel)) rfl
theorem GX10_151 {r nn : Nat} {a0 a1 : Nat} (hs : SK[r]? = some (17, nn, [a0, a1])) (hd : decode (iC y) pc = .ok (.getfield 151, 3)) (h : E G y Z k n (pc + 3) ls (vi (μ r 1) :: st) (Hp μ)) (ho : (iY y).cls = RX10 := by rfl) : E G y Z k n pc ls (.ref r :: st) (Hp μ) :=
  E_get (ci := 7) (kf := 1) hd rfl inX8 (by decide) (by rw [ho]; exact flX10_151) (Hp_get hs) rfl h
theorem PX10_151 {r nn : Nat} {a0 a1 : Nat} {x : Int} (hs : SK[r]? = some (17, nn, [a0, a1])) (hd : decode (iC y) pc = .ok (.putfield 151, 3)) (h : E G y Z k n (pc + 3) ls st (Hp (up μ r 1 x))) (ho : (iY y).cls = RX10 := by rfl) : E G y Z k n pc ls (vi x :: .ref r :: st) (Hp μ) := by
  refine E_put (ci := 7) (kf := 1) (ty0 := tyX8) (ty := .int) hd rfl inX8 tyX8_ok nmX8 (by decide) (by rw [ho]; exact flX10_151) rfl (by decide +kernel) rfl rfl (Hp_get hs) (by simp) ?_
  rw [← Hp_set hs up_ne] at h
  simpa [cell, up] using h
theorem flX10_154 : Cond.fieldLink RX10 154 (TX8 0).1 (TX8 0).2.1 (TX8 0).2.2.1 ∈ lw_ok := lw_in (List.mem_of_getElem? (i := 106) (by decide +kernel)) rfl
theorem GX10_154 {r nn : Nat} {a0 a1 : Nat} (hs : SK[r]? = some (17, nn, [a0, a1])) (hd : decode (iC y) pc = .ok (.getfield 154, 3)) (h : E G y Z k n (pc + 3) ls (vi (μ r 0) :: st) (Hp μ)) (ho : (iY y).cls = RX10 := by rfl) : E G y Z k n pc ls (.ref r :: st) (Hp μ) :=
  E_get (ci := 7) (kf := 0) hd rfl inX8 (by decide) (by rw [ho]; exact flX10_154) (Hp_get hs) rfl h
theorem PX10_154 {r nn : Nat} {a0 a1 : Nat} {x : Int} (hs : SK[r]? = some (17, nn, [a0, a1])) (hd : decode (iC y) pc = .ok (.putfield 154, 3)) (h : E G y Z k n (pc + 3) ls st (Hp (up μ r 0 x))) (ho : (iY y).cls = RX10 := by rfl) : E G y Z k n pc ls (vi x :: .ref r :: st) (Hp μ) := by
  refine E_put (ci := 7) (kf := 0) (ty0 := tyX8) (ty := .int) hd rfl inX8 tyX8_ok nmX8 (by decide) (by rw [ho]; exact flX10_154) rfl (by decide +kernel) rfl rfl (Hp_get hs) (by simp) ?_
  rw [← Hp_set hs up_ne] at h
  simpa [cell, up] using h
theorem flX10_160 : Cond.fieldLink RX10 160 (TX1 2).1 (TX1 2).2.1 (TX1 2).2.2.1 ∈ lw_ok := lw_in (List.mem_of_getElem? (i := 164) (by decide +kernel)) rfl
theorem GX10_160 {r nn : Nat} {a0 : Nat} (hs : SK[r]? = some (11, nn, [a0])) (hd : decode (iC y) pc = .ok (.getfield 160, 3)) (h : E G y Z k n (pc + 3) ls (vi (μ r 2) :: st) (Hp μ)) (ho : (iY y).cls = RX10 := by rfl) : E G y Z k n pc ls (.ref r :: st) (Hp μ) :=
  E_get (ci := 1) (kf := 2) hd rfl inX1 (by decide) (by rw [ho]; exact flX10_160) (Hp_get hs) rfl h
theorem PX10_160 {r nn : Nat} {a0 : Nat} {x : Int} (hs : SK[r]? = some (11, nn, [a0])) (hd : decode (iC y) pc = .ok (.putfield 160, 3)) (h : E G y Z k n (pc + 3) ls st (Hp (up μ r 2 x))) (ho : (iY y).cls = RX10 := by rfl) : E G y Z k n pc ls (vi x :: .ref r :: st) (Hp μ) := by
  refine E_put (ci := 1) (kf := 2) (ty0 := tyX1) (ty := .int) hd rfl inX1 tyX1_ok nmX1 (by decide) (by rw [ho]; exact flX10_160) rfl (by decide +kernel) rfl rfl (Hp_get hs) (by simp) ?_
  rw [← Hp_set hs up_ne] at h
  simpa [cell, up] using h
theorem flX10_169 : Cond.fieldLink RX10 169 (TX8 2).1 (TX8 2).2.1 (TX8 2).2.2.1 ∈ lw_ok := lw_in (List.mem_of_getElem? (i := 114) (by decide +kernel)) rfl
theorem GX10_169 {r nn : Nat} {a0 a1 : Nat} (hs : SK[r]? = some (17, nn, [a0, a1])) (hd : decode (iC y) pc = .ok (.getfield 169, 3)) (h : E G y Z k n (pc + 3) ls (vi (μ r 2) :: st) (Hp μ)) (ho : (iY y).cls = RX10 := by rfl) : E G y Z k n pc ls (.ref r :: st) (Hp μ) :=
  E_get (ci := 7) (kf := 2) hd rfl inX8 (by decide) (by rw [ho]; exact flX10_169) (Hp_get hs) rfl h
theorem PX10_169 {r nn : Nat} {a0 a1 : Nat} {x : Int} (hs : SK[r]? = some (17, nn, [a0, a1])) (hd : decode (iC y) pc = .ok (.putfield 169, 3)) (h : E G y Z k n (pc + 3) ls st (Hp (up μ r 2 x))) (ho : (iY y).cls = RX10 := by rfl) : E G y Z k n pc ls (vi x :: .ref r :: st) (Hp μ) := by
  refine E_put (ci := 7) (kf := 2) (ty0 := tyX8) (ty := .int) hd rfl inX8 tyX8_ok nmX8 (by decide) (by rw [ho]; exact flX10_169) rfl (by decide +kernel) rfl rfl (Hp_get hs) (by simp) ?_
  rw [← Hp_set hs up_ne] at h
  simpa [cell, up] using h
theorem flX10_175 : Cond.fieldLink RX10 175 (TX2 3).1 (TX2 3).2.1 (TX2 3).2.2.1 ∈ lw_ok := lw_in (List.mem_of_getElem? (i := 240) (by decide +kernel)) rfl
theorem GX10_175 {r nn : Nat} {a0 a1 : Nat} (hs : SK[r]? = some (12, nn, [a0, a1])) (hd : decode (iC y) pc = .ok (.getfield 175, 3)) (h : E G y Z k n (pc + 3) ls (vi (μ r 3) :: st) (Hp μ)) (ho : (iY y).cls = RX10 := by rfl) : E G y Z k n pc ls (.ref r :: st) (Hp μ) :=
  E_get (ci := 2) (kf := 3) hd rfl inX2 (by decide) (by rw [ho]; exact flX10_175) (Hp_get hs) rfl h
theorem PX10_175 {r nn : Nat} {a0 a1 : Nat} {x : Int} (hs : SK[r]? = some (12, nn, [a0, a1])) (hd : decode (iC y) pc = .ok (.putfield 175, 3)) (h : E G y Z k n (pc + 3) ls st (Hp (up μ r 3 x))) (ho : (iY y).cls = RX10 := by rfl) : E G y Z k n pc ls (vi x :: .ref r :: st) (Hp μ) := by
  refine E_put (ci := 2) (kf := 3) (ty0 := tyX2) (ty := .int) hd rfl inX2 tyX2_ok nmX2 (by decide) (by rw [ho]; exact flX10_175) rfl (by decide +kernel) rfl rfl (Hp_get hs) (by simp) ?_
  rw [← Hp_set hs up_ne] at h
  simpa [cell, up] using h
theorem flX10_178 : Cond.fieldLink RX10 178 (TX2 2).1 (TX2 2).2.1 (TX2 2).2.2.1 ∈ lw_ok := lw_in (List.mem_of_getElem? (i := 238) (by decide +kernel)) rfl
theorem GX10_178 {r nn : Nat} {a0 a1 : Nat} (hs : SK[r]? = some (12, nn, [a0, a1])) (hd : decode (iC y) pc = .ok (.getfield 178, 3)) (h : E G y Z k n (pc + 3) ls (vi (μ r 2) :: st) (Hp μ)) (ho : (iY y).cls = RX10 := by rfl) : E G y Z k n pc ls (.ref r :: st) (Hp μ) :=
  E_get (ci := 2) (kf := 2) hd rfl inX2 (by decide) (by rw [ho]; exact flX10_178) (Hp_get hs) rfl h
theorem PX10_178 {r nn : Nat} {a0 a1 : Nat} {x : Int} (hs : SK[r]? = some (12, nn, [a0, a1])) (hd : decode (iC y) pc = .ok (.putfield 178, 3)) (h : E G y Z k n (pc + 3) ls st (Hp (up μ r 2 x))) (ho : (iY y).cls = RX10 := by rfl) : E G y Z k n pc ls (vi x :: .ref r :: st) (Hp μ) := by
  refine E_put (ci := 2) (kf := 2) (ty0 := tyX2) (ty := .int) hd rfl inX2 tyX2_ok nmX2 (by decide) (by rw [ho]; exact flX10_178) rfl (by decide +kernel) rfl rfl (Hp_get hs) (by simp) ?_
  rw [← Hp_set hs up_ne] at h
  simpa [cell, up] using h
theorem flX10_183 : Cond.fieldLink RX10 183 (TX8 5).1 (TX8 5).2.1 (TX8 5).2.2.1 ∈ lw_ok := lw_in (List.mem_of_getElem? (i := 126) (by decide +kernel)) rfl
theorem GX10_183 {r nn : Nat} {a0 a1 : Nat} (hs : SK[r]? = some (17, nn, [a0, a1])) (hd : decode (iC y) pc = .ok (.getfield 183, 3)) (h : E G y Z k n (pc + 3) ls (.ref a0 :: st) (Hp μ)) (ho : (iY y).cls = RX10 := by rfl) : E G y Z k n pc ls (.ref r :: st) (Hp μ) :=
  E_get (ci := 7) (kf := 5) hd rfl inX8 (by decide) (by rw [ho]; exact flX10_183) (Hp_get hs) rfl h
theorem flX10_187 : Cond.fieldLink RX10 187 (TX8 6).1 (TX8 6).2.1 (TX8 6).2.2.1 ∈ lw_ok := lw_in (List.mem_of_getElem? (i := 130) (by decide +kernel)) rfl
theorem GX10_187 {r nn : Nat} {a0 a1 : Nat} (hs : SK[r]? = some (17, nn, [a0, a1])) (hd : decode (iC y) pc = .ok (.getfield 187, 3)) (h : E G y Z k n (pc + 3) ls (.ref a1 :: st) (Hp μ)) (ho : (iY y).cls = RX10 := by rfl) : E G y Z k n pc ls (.ref r :: st) (Hp μ) :=
  E_get (ci := 7) (kf := 6) hd rfl inX8 (by decide) (by rw [ho]; exact flX10_187) (Hp_get hs) rfl h
theorem flX10_201 : Cond.fieldLink RX10 201 (TX0 0).1 (TX0 0).2.1 (TX0 0).2.2.1 ∈ lw_ok := lw_in (List.mem_of_getElem? (i := 257) (by decide +kernel)) rfl
theorem GX10_201 {r nn : Nat} (hs : SK[r]? = some (10, nn, [])) (hd : decode (iC y) pc = .ok (.getfield 201, 3)) (h : E G y Z k n (pc + 3) ls (vl (μ r 0) :: st) (Hp μ)) (ho : (iY y).cls = RX10 := by rfl) : E G y Z k n pc ls (.ref r :: st) (Hp μ) :=
  E_get (ci := 0) (kf := 0) hd rfl inX0 (by decide) (by rw [ho]; exact flX10_201) (Hp_get hs) rfl h
theorem PX10_201 {r nn : Nat} {x : Int} (hs : SK[r]? = some (10, nn, [])) (hd : decode (iC y) pc = .ok (.putfield 201, 3)) (h : E G y Z k n (pc + 3) ls st (Hp (up μ r 0 x))) (ho : (iY y).cls = RX10 := by rfl) : E G y Z k n pc ls (vl x :: .ref r :: st) (Hp μ) := by
  refine E_put (ci := 0) (kf := 0) (ty0 := tyX0) (ty := .long) hd rfl inX0 tyX0_ok nmX0 (by decide) (by rw [ho]; exact flX10_201) rfl (by decide +kernel) rfl rfl (Hp_get hs) (by simp) ?_
  rw [← Hp_set hs up_ne] at h
  simpa [cell, up] using h
theorem flX10_205 : Cond.fieldLink RX10 205 (TX0 1).1 (TX0 1).2.1 (TX0 1).2.2.1 ∈ lw_ok := lw_in (List.mem_of_getElem? (i := 259) (by decide +kernel)) rfl
theorem GX10_205 {r nn : Nat} (hs : SK[r]? = some (10, nn, [])) (hd : decode (iC y) pc = .ok (.getfield 205, 3)) (h : E G y Z k n (pc + 3) ls (vl (μ r 1) :: st) (Hp μ)) (ho : (iY y).cls = RX10 := by rfl) : E G y Z k n pc ls (.ref r :: st) (Hp μ) :=
  E_get (ci := 0) (kf := 1) hd rfl inX0 (by decide) (by rw [ho]; exact flX10_205) (Hp_get hs) rfl h
theorem PX10_205 {r nn : Nat} {x : Int} (hs : SK[r]? = some (10, nn, [])) (hd : decode (iC y) pc = .ok (.putfield 205, 3)) (h : E G y Z k n (pc + 3) ls st (Hp (up μ r 1 x))) (ho : (iY y).cls = RX10 := by rfl) : E G y Z k n pc ls (vl x :: .ref r :: st) (Hp μ) := by
  refine E_put (ci := 0) (kf := 1) (ty0 := tyX0) (ty := .long) hd rfl inX0 tyX0_ok nmX0 (by decide) (by rw [ho]; exact flX10_205) rfl (by decide +kernel) rfl rfl (Hp_get hs) (by simp) ?_
  rw [← Hp_set hs up_ne] at h
  simpa [cell, up] using h
theorem flX10_216 : Cond.fieldLink RX10 216 (TX2 1).1 (TX2 1).2.1 (TX2 1).2.2.1 ∈ lw_ok := lw_in (List.mem_of_getElem? (i := 236) (by decide +kernel)) rfl
theorem GX10_216 {r nn : Nat} {a0 a1 : Nat} (hs : SK[r]? = some (12, nn, [a0, a1])) (hd : decode (iC y) pc = .ok (.getfield 216, 3)) (h : E G y Z k n (pc + 3) ls (.ref a1 :: st) (Hp μ)) (ho : (iY y).cls = RX10 := by rfl) : E G y Z k n pc ls (.ref r :: st) (Hp μ) :=
  E_get (ci := 2) (kf := 1) hd rfl inX2 (by decide) (by rw [ho]; exact flX10_216) (Hp_get hs) rfl h
theorem flX10_235 : Cond.fieldLink RX10 235 (TX3 0).1 (TX3 0).2.1 (TX3 0).2.2.1 ∈ lw_ok := lw_in (List.mem_of_getElem? (i := 288) (by decide +kernel)) rfl
theorem GX10_235 {r nn : Nat} (hs : SK[r]? = some (13, nn, [])) (hd : decode (iC y) pc = .ok (.getfield 235, 3)) (h : E G y Z k n (pc + 3) ls (vl (μ r 0) :: st) (Hp μ)) (ho : (iY y).cls = RX10 := by rfl) : E G y Z k n pc ls (.ref r :: st) (Hp μ) :=
  E_get (ci := 3) (kf := 0) hd rfl inX3 (by decide) (by rw [ho]; exact flX10_235) (Hp_get hs) rfl h
theorem PX10_235 {r nn : Nat} {x : Int} (hs : SK[r]? = some (13, nn, [])) (hd : decode (iC y) pc = .ok (.putfield 235, 3)) (h : E G y Z k n (pc + 3) ls st (Hp (up μ r 0 x))) (ho : (iY y).cls = RX10 := by rfl) : E G y Z k n pc ls (vl x :: .ref r :: st) (Hp μ) := by
  refine E_put (ci := 3) (kf := 0) (ty0 := tyX3) (ty := .long) hd rfl inX3 tyX3_ok nmX3 (by decide) (by rw [ho]; exact flX10_235) rfl (by decide +kernel) rfl rfl (Hp_get hs) (by simp) ?_
  rw [← Hp_set hs up_ne] at h
  simpa [cell, up] using h
theorem flX10_238 : Cond.fieldLink RX10 238 (TX3 1).1 (TX3 1).2.1 (TX3 1).2.2.1 ∈ lw_ok := lw_in (List.mem_of_getElem? (i := 290) (by decide +kernel)) rfl
theorem GX10_238 {r nn : Nat} (hs : SK[r]? = some (13, nn, [])) (hd : decode (iC y) pc = .ok (.getfield 238, 3)) (h : E G y Z k n (pc + 3) ls (vl (μ r 1) :: st) (Hp μ)) (ho : (iY y).cls = RX10 := by rfl) : E G y Z k n pc ls (.ref r :: st) (Hp μ) :=
  E_get (ci := 3) (kf := 1) hd rfl inX3 (by decide) (by rw [ho]; exact flX10_238) (Hp_get hs) rfl h
theorem PX10_238 {r nn : Nat} {x : Int} (hs : SK[r]? = some (13, nn, [])) (hd : decode (iC y) pc = .ok (.putfield 238, 3)) (h : E G y Z k n (pc + 3) ls st (Hp (up μ r 1 x))) (ho : (iY y).cls = RX10 := by rfl) : E G y Z k n pc ls (vl x :: .ref r :: st) (Hp μ) := by
  refine E_put (ci := 3) (kf := 1) (ty0 := tyX3) (ty := .long) hd rfl inX3 tyX3_ok nmX3 (by decide) (by rw [ho]; exact flX10_238) rfl (by decide +kernel) rfl rfl (Hp_get hs) (by simp) ?_
  rw [← Hp_set hs up_ne] at h
  simpa [cell, up] using h
theorem flX10_241 : Cond.fieldLink RX10 241 (TX7 2).1 (TX7 2).2.1 (TX7 2).2.2.1 ∈ lw_ok := lw_in (List.mem_of_getElem? (i := 217) (by decide +kernel)) rfl
theorem GX10_241 {r nn : Nat} {a0 a1 : Nat} (hs : SK[r]? = some (16, nn, [a0, a1])) (hd : decode (iC y) pc = .ok (.getfield 241, 3)) (h : E G y Z k n (pc + 3) ls (vi (μ r 2) :: st) (Hp μ)) (ho : (iY y).cls = RX10 := by rfl) : E G y Z k n pc ls (.ref r :: st) (Hp μ) :=
  E_get (ci := 6) (kf := 2) hd rfl inX7 (by decide) (by rw [ho]; exact flX10_241) (Hp_get hs) rfl h
theorem PX10_241 {r nn : Nat} {a0 a1 : Nat} {x : Int} (hs : SK[r]? = some (16, nn, [a0, a1])) (hd : decode (iC y) pc = .ok (.putfield 241, 3)) (h : E G y Z k n (pc + 3) ls st (Hp (up μ r 2 x))) (ho : (iY y).cls = RX10 := by rfl) : E G y Z k n pc ls (vi x :: .ref r :: st) (Hp μ) := by
  refine E_put (ci := 6) (kf := 2) (ty0 := tyX7) (ty := .int) hd rfl inX7 tyX7_ok nmX7 (by decide) (by rw [ho]; exact flX10_241) rfl (by decide +kernel) rfl rfl (Hp_get hs) (by simp) ?_
  rw [← Hp_set hs up_ne] at h
  simpa [cell, up] using h
theorem flX0_16 : Cond.fieldLink RX0 16 (TX0 0).1 (TX0 0).2.1 (TX0 0).2.2.1 ∈ lw_ok := lw_in (List.mem_of_getElem? (i := 256) (by decide +kernel)) rfl
theorem GX0_16 {r nn : Nat} (hs : SK[r]? = some (10, nn, [])) (hd : decode (iC y) pc = .ok (.getfield 16, 3)) (h : E G y Z k n (pc + 3) ls (vl (μ r 0) :: st) (Hp μ)) (ho : (iY y).cls = RX0 := by rfl) : E G y Z k n pc ls (.ref r :: st) (Hp μ) :=
  E_get (ci := 0) (kf := 0) hd rfl inX0 (by decide) (by rw [ho]; exact flX0_16) (Hp_get hs) rfl h
theorem PX0_16 {r nn : Nat} {x : Int} (hs : SK[r]? = some (10, nn, [])) (hd : decode (iC y) pc = .ok (.putfield 16, 3)) (h : E G y Z k n (pc + 3) ls st (Hp (up μ r 0 x))) (ho : (iY y).cls = RX0 := by rfl) : E G y Z k n pc ls (vl x :: .ref r :: st) (Hp μ) := by
  refine E_put (ci := 0) (kf := 0) (ty0 := tyX0) (ty := .long) hd rfl inX0 tyX0_ok nmX0 (by decide) (by rw [ho]; exact flX0_16) rfl (by decide +kernel) rfl rfl (Hp_get hs) (by simp) ?_
  rw [← Hp_set hs up_ne] at h
  simpa [cell, up] using h
theorem flX0_22 : Cond.fieldLink RX0 22 (TX0 1).1 (TX0 1).2.1 (TX0 1).2.2.1 ∈ lw_ok := lw_in (List.mem_of_getElem? (i := 258) (by decide +kernel)) rfl
theorem GX0_22 {r nn : Nat} (hs : SK[r]? = some (10, nn, [])) (hd : decode (iC y) pc = .ok (.getfield 22, 3)) (h : E G y Z k n (pc + 3) ls (vl (μ r 1) :: st) (Hp μ)) (ho : (iY y).cls = RX0 := by rfl) : E G y Z k n pc ls (.ref r :: st) (Hp μ) :=
  E_get (ci := 0) (kf := 1) hd rfl inX0 (by decide) (by rw [ho]; exact flX0_22) (Hp_get hs) rfl h
theorem PX0_22 {r nn : Nat} {x : Int} (hs : SK[r]? = some (10, nn, [])) (hd : decode (iC y) pc = .ok (.putfield 22, 3)) (h : E G y Z k n (pc + 3) ls st (Hp (up μ r 1 x))) (ho : (iY y).cls = RX0 := by rfl) : E G y Z k n pc ls (vl x :: .ref r :: st) (Hp μ) := by
  refine E_put (ci := 0) (kf := 1) (ty0 := tyX0) (ty := .long) hd rfl inX0 tyX0_ok nmX0 (by decide) (by rw [ho]; exact flX0_22) rfl (by decide +kernel) rfl rfl (Hp_get hs) (by simp) ?_
  rw [← Hp_set hs up_ne] at h
  simpa [cell, up] using h
theorem flX1_11 : Cond.fieldLink RX1 11 (TX1 0).1 (TX1 0).2.1 (TX1 0).2.2.1 ∈ lw_ok := lw_in (List.mem_of_getElem? (i := 161) (by decide +kernel)) rfl
theorem GX1_11 {r nn : Nat} {a0 : Nat} (hs : SK[r]? = some (11, nn, [a0])) (hd : decode (iC y) pc = .ok (.getfield 11, 3)) (h : E G y Z k n (pc + 3) ls (.ref a0 :: st) (Hp μ)) (ho : (iY y).cls = RX1 := by rfl) : E G y Z k n pc ls (.ref r :: st) (Hp μ) :=
  E_get (ci := 1) (kf := 0) hd rfl inX1 (by decide) (by rw [ho]; exact flX1_11) (Hp_get hs) rfl h
theorem flX1_18 : Cond.fieldLink RX1 18 (TX1 1).1 (TX1 1).2.1 (TX1 1).2.2.1 ∈ lw_ok := lw_in (List.mem_of_getElem? (i := 162) (by decide +kernel)) rfl
theorem GX1_18 {r nn : Nat} {a0 : Nat} (hs : SK[r]? = some (11, nn, [a0])) (hd : decode (iC y) pc = .ok (.getfield 18, 3)) (h : E G y Z k n (pc + 3) ls (vi (μ r 1) :: st) (Hp μ)) (ho : (iY y).cls = RX1 := by rfl) : E G y Z k n pc ls (.ref r :: st) (Hp μ) :=
  E_get (ci := 1) (kf := 1) hd rfl inX1 (by decide) (by rw [ho]; exact flX1_18) (Hp_get hs) rfl h
theorem PX1_18 {r nn : Nat} {a0 : Nat} {x : Int} (hs : SK[r]? = some (11, nn, [a0])) (hd : decode (iC y) pc = .ok (.putfield 18, 3)) (h : E G y Z k n (pc + 3) ls st (Hp (up μ r 1 x))) (ho : (iY y).cls = RX1 := by rfl) : E G y Z k n pc ls (vi x :: .ref r :: st) (Hp μ) := by
  refine E_put (ci := 1) (kf := 1) (ty0 := tyX1) (ty := .int) hd rfl inX1 tyX1_ok nmX1 (by decide) (by rw [ho]; exact flX1_18) rfl (by decide +kernel) rfl rfl (Hp_get hs) (by simp) ?_
  rw [← Hp_set hs up_ne] at h
  simpa [cell, up] using h
theorem flX1_26 : Cond.fieldLink RX1 26 (TX1 2).1 (TX1 2).2.1 (TX1 2).2.2.1 ∈ lw_ok := lw_in (List.mem_of_getElem? (i := 163) (by decide +kernel)) rfl
theorem GX1_26 {r nn : Nat} {a0 : Nat} (hs : SK[r]? = some (11, nn, [a0])) (hd : decode (iC y) pc = .ok (.getfield 26, 3)) (h : E G y Z k n (pc + 3) ls (vi (μ r 2) :: st) (Hp μ)) (ho : (iY y).cls = RX1 := by rfl) : E G y Z k n pc ls (.ref r :: st) (Hp μ) :=
  E_get (ci := 1) (kf := 2) hd rfl inX1 (by decide) (by rw [ho]; exact flX1_26) (Hp_get hs) rfl h
theorem PX1_26 {r nn : Nat} {a0 : Nat} {x : Int} (hs : SK[r]? = some (11, nn, [a0])) (hd : decode (iC y) pc = .ok (.putfield 26, 3)) (h : E G y Z k n (pc + 3) ls st (Hp (up μ r 2 x))) (ho : (iY y).cls = RX1 := by rfl) : E G y Z k n pc ls (vi x :: .ref r :: st) (Hp μ) := by
  refine E_put (ci := 1) (kf := 2) (ty0 := tyX1) (ty := .int) hd rfl inX1 tyX1_ok nmX1 (by decide) (by rw [ho]; exact flX1_26) rfl (by decide +kernel) rfl rfl (Hp_get hs) (by simp) ?_
  rw [← Hp_set hs up_ne] at h
  simpa [cell, up] using h
theorem flX2_9 : Cond.fieldLink RX2 9 (TX2 0).1 (TX2 0).2.1 (TX2 0).2.2.1 ∈ lw_ok := lw_in (List.mem_of_getElem? (i := 234) (by decide +kernel)) rfl
theorem GX2_9 {r nn : Nat} {a0 a1 : Nat} (hs : SK[r]? = some (12, nn, [a0, a1])) (hd : decode (iC y) pc = .ok (.getfield 9, 3)) (h : E G y Z k n (pc + 3) ls (.ref a0 :: st) (Hp μ)) (ho : (iY y).cls = RX2 := by rfl) : E G y Z k n pc ls (.ref r :: st) (Hp μ) :=
  E_get (ci := 2) (kf := 0) hd rfl inX2 (by decide) (by rw [ho]; exact flX2_9) (Hp_get hs) rfl h
theorem flX2_15 : Cond.fieldLink RX2 15 (TX2 1).1 (TX2 1).2.1 (TX2 1).2.2.1 ∈ lw_ok := lw_in (List.mem_of_getElem? (i := 235) (by decide +kernel)) rfl
theorem GX2_15 {r nn : Nat} {a0 a1 : Nat} (hs : SK[r]? = some (12, nn, [a0, a1])) (hd : decode (iC y) pc = .ok (.getfield 15, 3)) (h : E G y Z k n (pc + 3) ls (.ref a1 :: st) (Hp μ)) (ho : (iY y).cls = RX2 := by rfl) : E G y Z k n pc ls (.ref r :: st) (Hp μ) :=
  E_get (ci := 2) (kf := 1) hd rfl inX2 (by decide) (by rw [ho]; exact flX2_15) (Hp_get hs) rfl h
theorem flX2_22 : Cond.fieldLink RX2 22 (TX2 2).1 (TX2 2).2.1 (TX2 2).2.2.1 ∈ lw_ok := lw_in (List.mem_of_getElem? (i := 237) (by decide +kernel)) rfl
theorem GX2_22 {r nn : Nat} {a0 a1 : Nat} (hs : SK[r]? = some (12, nn, [a0, a1])) (hd : decode (iC y) pc = .ok (.getfield 22, 3)) (h : E G y Z k n (pc + 3) ls (vi (μ r 2) :: st) (Hp μ)) (ho : (iY y).cls = RX2 := by rfl) : E G y Z k n pc ls (.ref r :: st) (Hp μ) :=
  E_get (ci := 2) (kf := 2) hd rfl inX2 (by decide) (by rw [ho]; exact flX2_22) (Hp_get hs) rfl h
theorem PX2_22 {r nn : Nat} {a0 a1 : Nat} {x : Int} (hs : SK[r]? = some (12, nn, [a0, a1])) (hd : decode (iC y) pc = .ok (.putfield 22, 3)) (h : E G y Z k n (pc + 3) ls st (Hp (up μ r 2 x))) (ho : (iY y).cls = RX2 := by rfl) : E G y Z k n pc ls (vi x :: .ref r :: st) (Hp μ) := by
  refine E_put (ci := 2) (kf := 2) (ty0 := tyX2) (ty := .int) hd rfl inX2 tyX2_ok nmX2 (by decide) (by rw [ho]; exact flX2_22) rfl (by decide +kernel) rfl rfl (Hp_get hs) (by simp) ?_
  rw [← Hp_set hs up_ne] at h
  simpa [cell, up] using h
theorem flX2_26 : Cond.fieldLink RX2 26 (TX8 3).1 (TX8 3).2.1 (TX8 3).2.2.1 ∈ lw_ok := lw_in (List.mem_of_getElem? (i := 116) (by decide +kernel)) rfl
theorem GX2_26 {r nn : Nat} {a0 a1 : Nat} (hs : SK[r]? = some (17, nn, [a0, a1])) (hd : decode (iC y) pc = .ok (.getfield 26, 3)) (h : E G y Z k n (pc + 3) ls (vi (μ r 3) :: st) (Hp μ)) (ho : (iY y).cls = RX2 := by rfl) : E G y Z k n pc ls (.ref r :: st) (Hp μ) :=
  E_get (ci := 7) (kf := 3) hd rfl inX8 (by decide) (by rw [ho]; exact flX2_26) (Hp_get hs) rfl h
theorem PX2_26 {r nn : Nat} {a0 a1 : Nat} {x : Int} (hs : SK[r]? = some (17, nn, [a0, a1])) (hd : decode (iC y) pc = .ok (.putfield 26, 3)) (h : E G y Z k n (pc + 3) ls st (Hp (up μ r 3 x))) (ho : (iY y).cls = RX2 := by rfl) : E G y Z k n pc ls (vi x :: .ref r :: st) (Hp μ) := by
  refine E_put (ci := 7) (kf := 3) (ty0 := tyX8) (ty := .int) hd rfl inX8 tyX8_ok nmX8 (by decide) (by rw [ho]; exact flX2_26) rfl (by decide +kernel) rfl rfl (Hp_get hs) (by simp) ?_
  rw [← Hp_set hs up_ne] at h
  simpa [cell, up] using h
theorem flX2_49 : Cond.fieldLink RX2 49 (TX8 0).1 (TX8 0).2.1 (TX8 0).2.2.1 ∈ lw_ok := lw_in (List.mem_of_getElem? (i := 104) (by decide +kernel)) rfl
theorem GX2_49 {r nn : Nat} {a0 a1 : Nat} (hs : SK[r]? = some (17, nn, [a0, a1])) (hd : decode (iC y) pc = .ok (.getfield 49, 3)) (h : E G y Z k n (pc + 3) ls (vi (μ r 0) :: st) (Hp μ)) (ho : (iY y).cls = RX2 := by rfl) : E G y Z k n pc ls (.ref r :: st) (Hp μ) :=
  E_get (ci := 7) (kf := 0) hd rfl inX8 (by decide) (by rw [ho]; exact flX2_49) (Hp_get hs) rfl h
theorem PX2_49 {r nn : Nat} {a0 a1 : Nat} {x : Int} (hs : SK[r]? = some (17, nn, [a0, a1])) (hd : decode (iC y) pc = .ok (.putfield 49, 3)) (h : E G y Z k n (pc + 3) ls st (Hp (up μ r 0 x))) (ho : (iY y).cls = RX2 := by rfl) : E G y Z k n pc ls (vi x :: .ref r :: st) (Hp μ) := by
  refine E_put (ci := 7) (kf := 0) (ty0 := tyX8) (ty := .int) hd rfl inX8 tyX8_ok nmX8 (by decide) (by rw [ho]; exact flX2_49) rfl (by decide +kernel) rfl rfl (Hp_get hs) (by simp) ?_
  rw [← Hp_set hs up_ne] at h
  simpa [cell, up] using h
theorem flX2_52 : Cond.fieldLink RX2 52 (TX8 1).1 (TX8 1).2.1 (TX8 1).2.2.1 ∈ lw_ok := lw_in (List.mem_of_getElem? (i := 108) (by decide +kernel)) rfl
theorem GX2_52 {r nn : Nat} {a0 a1 : Nat} (hs : SK[r]? = some (17, nn, [a0, a1])) (hd : decode (iC y) pc = .ok (.getfield 52, 3)) (h : E G y Z k n (pc + 3) ls (vi (μ r 1) :: st) (Hp μ)) (ho : (iY y).cls = RX2 := by rfl) : E G y Z k n pc ls (.ref r :: st) (Hp μ) :=
  E_get (ci := 7) (kf := 1) hd rfl inX8 (by decide) (by rw [ho]; exact flX2_52) (Hp_get hs) rfl h
theorem PX2_52 {r nn : Nat} {a0 a1 : Nat} {x : Int} (hs : SK[r]? = some (17, nn, [a0, a1])) (hd : decode (iC y) pc = .ok (.putfield 52, 3)) (h : E G y Z k n (pc + 3) ls st (Hp (up μ r 1 x))) (ho : (iY y).cls = RX2 := by rfl) : E G y Z k n pc ls (vi x :: .ref r :: st) (Hp μ) := by
  refine E_put (ci := 7) (kf := 1) (ty0 := tyX8) (ty := .int) hd rfl inX8 tyX8_ok nmX8 (by decide) (by rw [ho]; exact flX2_52) rfl (by decide +kernel) rfl rfl (Hp_get hs) (by simp) ?_
  rw [← Hp_set hs up_ne] at h
  simpa [cell, up] using h
theorem flX2_55 : Cond.fieldLink RX2 55 (TX2 3).1 (TX2 3).2.1 (TX2 3).2.2.1 ∈ lw_ok := lw_in (List.mem_of_getElem? (i := 239) (by decide +kernel)) rfl
theorem GX2_55 {r nn : Nat} {a0 a1 : Nat} (hs : SK[r]? = some (12, nn, [a0, a1])) (hd : decode (iC y) pc = .ok (.getfield 55, 3)) (h : E G y Z k n (pc + 3) ls (vi (μ r 3) :: st) (Hp μ)) (ho : (iY y).cls = RX2 := by rfl) : E G y Z k n pc ls (.ref r :: st) (Hp μ) :=
  E_get (ci := 2) (kf := 3) hd rfl inX2 (by decide) (by rw [ho]; exact flX2_55) (Hp_get hs) rfl h
theorem PX2_55 {r nn : Nat} {a0 a1 : Nat} {x : Int} (hs : SK[r]? = some (12, nn, [a0, a1])) (hd : decode (iC y) pc = .ok (.putfield 55, 3)) (h : E G y Z k n (pc + 3) ls st (Hp (up μ r 3 x))) (ho : (iY y).cls = RX2 := by rfl) : E G y Z k n pc ls (vi x :: .ref r :: st) (Hp μ) := by
  refine E_put (ci := 2) (kf := 3) (ty0 := tyX2) (ty := .int) hd rfl inX2 tyX2_ok nmX2 (by decide) (by rw [ho]; exact flX2_55) rfl (by decide +kernel) rfl rfl (Hp_get hs) (by simp) ?_
  rw [← Hp_set hs up_ne] at h
  simpa [cell, up] using h
theorem flX2_71 : Cond.fieldLink RX2 71 (TX8 5).1 (TX8 5).2.1 (TX8 5).2.2.1 ∈ lw_ok := lw_in (List.mem_of_getElem? (i := 124) (by decide +kernel)) rfl
theorem GX2_71 {r nn : Nat} {a0 a1 : Nat} (hs : SK[r]? = some (17, nn, [a0, a1])) (hd : decode (iC y) pc = .ok (.getfield 71, 3)) (h : E G y Z k n (pc + 3) ls (.ref a0 :: st) (Hp μ)) (ho : (iY y).cls = RX2 := by rfl) : E G y Z k n pc ls (.ref r :: st) (Hp μ) :=
  E_get (ci := 7) (kf := 5) hd rfl inX8 (by decide) (by rw [ho]; exact flX2_71) (Hp_get hs) rfl h
theorem flX3_7 : Cond.fieldLink RX3 7 (TX8 3).1 (TX8 3).2.1 (TX8 3).2.2.1 ∈ lw_ok := lw_in (List.mem_of_getElem? (i := 115) (by decide +kernel)) rfl
theorem GX3_7 {r nn : Nat} {a0 a1 : Nat} (hs : SK[r]? = some (17, nn, [a0, a1])) (hd : decode (iC y) pc = .ok (.getfield 7, 3)) (h : E G y Z k n (pc + 3) ls (vi (μ r 3) :: st) (Hp μ)) (ho : (iY y).cls = RX3 := by rfl) : E G y Z k n pc ls (.ref r :: st) (Hp μ) :=
  E_get (ci := 7) (kf := 3) hd rfl inX8 (by decide) (by rw [ho]; exact flX3_7) (Hp_get hs) rfl h
theorem PX3_7 {r nn : Nat} {a0 a1 : Nat} {x : Int} (hs : SK[r]? = some (17, nn, [a0, a1])) (hd : decode (iC y) pc = .ok (.putfield 7, 3)) (h : E G y Z k n (pc + 3) ls st (Hp (up μ r 3 x))) (ho : (iY y).cls = RX3 := by rfl) : E G y Z k n pc ls (vi x :: .ref r :: st) (Hp μ) := by
  refine E_put (ci := 7) (kf := 3) (ty0 := tyX8) (ty := .int) hd rfl inX8 tyX8_ok nmX8 (by decide) (by rw [ho]; exact flX3_7) rfl (by decide +kernel) rfl rfl (Hp_get hs) (by simp) ?_
  rw [← Hp_set hs up_ne] at h
  simpa [cell, up] using h
theorem flX3_13 : Cond.fieldLink RX3 13 (TX8 5).1 (TX8 5).2.1 (TX8 5).2.2.1 ∈ lw_ok := lw_in (List.mem_of_getElem? (i := 123) (by decide +kernel)) rfl
theorem GX3_13 {r nn : Nat} {a0 a1 : Nat} (hs : SK[r]? = some (17, nn, [a0, a1])) (hd : decode (iC y) pc = .ok (.getfield 13, 3)) (h : E G y Z k n (pc + 3) ls (.ref a0 :: st) (Hp μ)) (ho : (iY y).cls = RX3 := by rfl) : E G y Z k n pc ls (.ref r :: st) (Hp μ) :=
  E_get (ci := 7) (kf := 5) hd rfl inX8 (by decide) (by rw [ho]; exact flX3_13) (Hp_get hs) rfl h
theorem flX3_17 : Cond.fieldLink RX3 17 (TX8 6).1 (TX8 6).2.1 (TX8 6).2.2.1 ∈ lw_ok := lw_in (List.mem_of_getElem? (i := 128) (by decide +kernel)) rfl
theorem GX3_17 {r nn : Nat} {a0 a1 : Nat} (hs : SK[r]? = some (17, nn, [a0, a1])) (hd : decode (iC y) pc = .ok (.getfield 17, 3)) (h : E G y Z k n (pc + 3) ls (.ref a1 :: st) (Hp μ)) (ho : (iY y).cls = RX3 := by rfl) : E G y Z k n pc ls (.ref r :: st) (Hp μ) :=
  E_get (ci := 7) (kf := 6) hd rfl inX8 (by decide) (by rw [ho]; exact flX3_17) (Hp_get hs) rfl h
theorem flX3_20 : Cond.fieldLink RX3 20 (TX8 2).1 (TX8 2).2.1 (TX8 2).2.2.1 ∈ lw_ok := lw_in (List.mem_of_getElem? (i := 112) (by decide +kernel)) rfl
theorem GX3_20 {r nn : Nat} {a0 a1 : Nat} (hs : SK[r]? = some (17, nn, [a0, a1])) (hd : decode (iC y) pc = .ok (.getfield 20, 3)) (h : E G y Z k n (pc + 3) ls (vi (μ r 2) :: st) (Hp μ)) (ho : (iY y).cls = RX3 := by rfl) : E G y Z k n pc ls (.ref r :: st) (Hp μ) :=
  E_get (ci := 7) (kf := 2) hd rfl inX8 (by decide) (by rw [ho]; exact flX3_20) (Hp_get hs) rfl h
theorem PX3_20 {r nn : Nat} {a0 a1 : Nat} {x : Int} (hs : SK[r]? = some (17, nn, [a0, a1])) (hd : decode (iC y) pc = .ok (.putfield 20, 3)) (h : E G y Z k n (pc + 3) ls st (Hp (up μ r 2 x))) (ho : (iY y).cls = RX3 := by rfl) : E G y Z k n pc ls (vi x :: .ref r :: st) (Hp μ) := by
  refine E_put (ci := 7) (kf := 2) (ty0 := tyX8) (ty := .int) hd rfl inX8 tyX8_ok nmX8 (by decide) (by rw [ho]; exact flX3_20) rfl (by decide +kernel) rfl rfl (Hp_get hs) (by simp) ?_
  rw [← Hp_set hs up_ne] at h
  simpa [cell, up] using h
theorem flX3_29 : Cond.fieldLink RX3 29 (TX3 0).1 (TX3 0).2.1 (TX3 0).2.2.1 ∈ lw_ok := lw_in (List.mem_of_getElem? (i := 287) (by decide +kernel)) rfl
theorem GX3_29 {r nn : Nat} (hs : SK[r]? = some (13, nn, [])) (hd : decode (iC y) pc = .ok (.getfield 29, 3)) (h : E G y Z k n (pc + 3) ls (vl (μ r 0) :: st) (Hp μ)) (ho : (iY y).cls = RX3 := by rfl) : E G y Z k n pc ls (.ref r :: st) (Hp μ) :=
  E_get (ci := 3) (kf := 0) hd rfl inX3 (by decide) (by rw [ho]; exact flX3_29) (Hp_get hs) rfl h
theorem PX3_29 {r nn : Nat} {x : Int} (hs : SK[r]? = some (13, nn, [])) (hd : decode (iC y) pc = .ok (.putfield 29, 3)) (h : E G y Z k n (pc + 3) ls st (Hp (up μ r 0 x))) (ho : (iY y).cls = RX3 := by rfl) : E G y Z k n pc ls (vl x :: .ref r :: st) (Hp μ) := by
  refine E_put (ci := 3) (kf := 0) (ty0 := tyX3) (ty := .long) hd rfl inX3 tyX3_ok nmX3 (by decide) (by rw [ho]; exact flX3_29) rfl (by decide +kernel) rfl rfl (Hp_get hs) (by simp) ?_
  rw [← Hp_set hs up_ne] at h
  simpa [cell, up] using h
theorem flX3_50 : Cond.fieldLink RX3 50 (TX3 1).1 (TX3 1).2.1 (TX3 1).2.2.1 ∈ lw_ok := lw_in (List.mem_of_getElem? (i := 289) (by decide +kernel)) rfl
theorem GX3_50 {r nn : Nat} (hs : SK[r]? = some (13, nn, [])) (hd : decode (iC y) pc = .ok (.getfield 50, 3)) (h : E G y Z k n (pc + 3) ls (vl (μ r 1) :: st) (Hp μ)) (ho : (iY y).cls = RX3 := by rfl) : E G y Z k n pc ls (.ref r :: st) (Hp μ) :=
  E_get (ci := 3) (kf := 1) hd rfl inX3 (by decide) (by rw [ho]; exact flX3_50) (Hp_get hs) rfl h
theorem PX3_50 {r nn : Nat} {x : Int} (hs : SK[r]? = some (13, nn, [])) (hd : decode (iC y) pc = .ok (.putfield 50, 3)) (h : E G y Z k n (pc + 3) ls st (Hp (up μ r 1 x))) (ho : (iY y).cls = RX3 := by rfl) : E G y Z k n pc ls (vl x :: .ref r :: st) (Hp μ) := by
  refine E_put (ci := 3) (kf := 1) (ty0 := tyX3) (ty := .long) hd rfl inX3 tyX3_ok nmX3 (by decide) (by rw [ho]; exact flX3_50) rfl (by decide +kernel) rfl rfl (Hp_get hs) (by simp) ?_
  rw [← Hp_set hs up_ne] at h
  simpa [cell, up] using h
theorem flX5_9 : Cond.fieldLink RX5 9 (TX5 0).1 (TX5 0).2.1 (TX5 0).2.2.1 ∈ lw_ok := lw_in (List.mem_of_getElem? (i := 271) (by decide +kernel)) rfl
theorem GX5_9 {r nn : Nat} {a0 a1 a2 : Nat} (hs : SK[r]? = some (14, nn, [a0, a1, a2])) (hd : decode (iC y) pc = .ok (.getfield 9, 3)) (h : E G y Z k n (pc + 3) ls (.ref a0 :: st) (Hp μ)) (ho : (iY y).cls = RX5 := by rfl) : E G y Z k n pc ls (.ref r :: st) (Hp μ) :=
  E_get (ci := 4) (kf := 0) hd rfl inX5 (by decide) (by rw [ho]; exact flX5_9) (Hp_get hs) rfl h
theorem flX5_13 : Cond.fieldLink RX5 13 (TX5 1).1 (TX5 1).2.1 (TX5 1).2.2.1 ∈ lw_ok := lw_in (List.mem_of_getElem? (i := 272) (by decide +kernel)) rfl
theorem GX5_13 {r nn : Nat} {a0 a1 a2 : Nat} (hs : SK[r]? = some (14, nn, [a0, a1, a2])) (hd : decode (iC y) pc = .ok (.getfield 13, 3)) (h : E G y Z k n (pc + 3) ls (.ref a1 :: st) (Hp μ)) (ho : (iY y).cls = RX5 := by rfl) : E G y Z k n pc ls (.ref r :: st) (Hp μ) :=
  E_get (ci := 4) (kf := 1) hd rfl inX5 (by decide) (by rw [ho]; exact flX5_13) (Hp_get hs) rfl h
theorem flX5_16 : Cond.fieldLink RX5 16 (TX5 2).1 (TX5 2).2.1 (TX5 2).2.2.1 ∈ lw_ok := lw_in (List.mem_of_getElem? (i := 273) (by decide +kernel)) rfl
theorem GX5_16 {r nn : Nat} {a0 a1 a2 : Nat} (hs : SK[r]? = some (14, nn, [a0, a1, a2])) (hd : decode (iC y) pc = .ok (.getfield 16, 3)) (h : E G y Z k n (pc + 3) ls (.ref a2 :: st) (Hp μ)) (ho : (iY y).cls = RX5 := by rfl) : E G y Z k n pc ls (.ref r :: st) (Hp μ) :=
  E_get (ci := 4) (kf := 2) hd rfl inX5 (by decide) (by rw [ho]; exact flX5_16) (Hp_get hs) rfl h
theorem flX5_29 : Cond.fieldLink RX5 29 (TX8 3).1 (TX8 3).2.1 (TX8 3).2.2.1 ∈ lw_ok := lw_in (List.mem_of_getElem? (i := 119) (by decide +kernel)) rfl
theorem GX5_29 {r nn : Nat} {a0 a1 : Nat} (hs : SK[r]? = some (17, nn, [a0, a1])) (hd : decode (iC y) pc = .ok (.getfield 29, 3)) (h : E G y Z k n (pc + 3) ls (vi (μ r 3) :: st) (Hp μ)) (ho : (iY y).cls = RX5 := by rfl) : E G y Z k n pc ls (.ref r :: st) (Hp μ) :=
  E_get (ci := 7) (kf := 3) hd rfl inX8 (by decide) (by rw [ho]; exact flX5_29) (Hp_get hs) rfl h
theorem PX5_29 {r nn : Nat} {a0 a1 : Nat} {x : Int} (hs : SK[r]? = some (17, nn, [a0, a1])) (hd : decode (iC y) pc = .ok (.putfield 29, 3)) (h : E G y Z k n (pc + 3) ls st (Hp (up μ r 3 x))) (ho : (iY y).cls = RX5 := by rfl) : E G y Z k n pc ls (vi x :: .ref r :: st) (Hp μ) := by
  refine E_put (ci := 7) (kf := 3) (ty0 := tyX8) (ty := .int) hd rfl inX8 tyX8_ok nmX8 (by decide) (by rw [ho]; exact flX5_29) rfl (by decide +kernel) rfl rfl (Hp_get hs) (by simp) ?_
  rw [← Hp_set hs up_ne] at h
  simpa [cell, up] using h
theorem flX5_35 : Cond.fieldLink RX5 35 (TX8 5).1 (TX8 5).2.1 (TX8 5).2.2.1 ∈ lw_ok := lw_in (List.mem_of_getElem? (i := 125) (by decide +kernel)) rfl
theorem GX5_35 {r nn : Nat} {a0 a1 : Nat} (hs : SK[r]? = some (17, nn, [a0, a1])) (hd : decode (iC y) pc = .ok (.getfield 35, 3)) (h : E G y Z k n (pc + 3) ls (.ref a0 :: st) (Hp μ)) (ho : (iY y).cls = RX5 := by rfl) : E G y Z k n pc ls (.ref r :: st) (Hp μ) :=
  E_get (ci := 7) (kf := 5) hd rfl inX8 (by decide) (by rw [ho]; exact flX5_35) (Hp_get hs) rfl h
theorem flX5_39 : Cond.fieldLink RX5 39 (TX8 6).1 (TX8 6).2.1 (TX8 6).2.2.1 ∈ lw_ok := lw_in (List.mem_of_getElem? (i := 129) (by decide +kernel)) rfl
theorem GX5_39 {r nn : Nat} {a0 a1 : Nat} (hs : SK[r]? = some (17, nn, [a0, a1])) (hd : decode (iC y) pc = .ok (.getfield 39, 3)) (h : E G y Z k n (pc + 3) ls (.ref a1 :: st) (Hp μ)) (ho : (iY y).cls = RX5 := by rfl) : E G y Z k n pc ls (.ref r :: st) (Hp μ) :=
  E_get (ci := 7) (kf := 6) hd rfl inX8 (by decide) (by rw [ho]; exact flX5_39) (Hp_get hs) rfl h
theorem flX5_49 : Cond.fieldLink RX5 49 (TX8 0).1 (TX8 0).2.1 (TX8 0).2.2.1 ∈ lw_ok := lw_in (List.mem_of_getElem? (i := 105) (by decide +kernel)) rfl
theorem GX5_49 {r nn : Nat} {a0 a1 : Nat} (hs : SK[r]? = some (17, nn, [a0, a1])) (hd : decode (iC y) pc = .ok (.getfield 49, 3)) (h : E G y Z k n (pc + 3) ls (vi (μ r 0) :: st) (Hp μ)) (ho : (iY y).cls = RX5 := by rfl) : E G y Z k n pc ls (.ref r :: st) (Hp μ) :=
  E_get (ci := 7) (kf := 0) hd rfl inX8 (by decide) (by rw [ho]; exact flX5_49) (Hp_get hs) rfl h
theorem PX5_49 {r nn : Nat} {a0 a1 : Nat} {x : Int} (hs : SK[r]? = some (17, nn, [a0, a1])) (hd : decode (iC y) pc = .ok (.putfield 49, 3)) (h : E G y Z k n (pc + 3) ls st (Hp (up μ r 0 x))) (ho : (iY y).cls = RX5 := by rfl) : E G y Z k n pc ls (vi x :: .ref r :: st) (Hp μ) := by
  refine E_put (ci := 7) (kf := 0) (ty0 := tyX8) (ty := .int) hd rfl inX8 tyX8_ok nmX8 (by decide) (by rw [ho]; exact flX5_49) rfl (by decide +kernel) rfl rfl (Hp_get hs) (by simp) ?_
  rw [← Hp_set hs up_ne] at h
  simpa [cell, up] using h
theorem flX5_59 : Cond.fieldLink RX5 59 (TX8 1).1 (TX8 1).2.1 (TX8 1).2.2.1 ∈ lw_ok := lw_in (List.mem_of_getElem? (i := 109) (by decide +kernel)) rfl
theorem GX5_59 {r nn : Nat} {a0 a1 : Nat} (hs : SK[r]? = some (17, nn, [a0, a1])) (hd : decode (iC y) pc = .ok (.getfield 59, 3)) (h : E G y Z k n (pc + 3) ls (vi (μ r 1) :: st) (Hp μ)) (ho : (iY y).cls = RX5 := by rfl) : E G y Z k n pc ls (.ref r :: st) (Hp μ) :=
  E_get (ci := 7) (kf := 1) hd rfl inX8 (by decide) (by rw [ho]; exact flX5_59) (Hp_get hs) rfl h
theorem PX5_59 {r nn : Nat} {a0 a1 : Nat} {x : Int} (hs : SK[r]? = some (17, nn, [a0, a1])) (hd : decode (iC y) pc = .ok (.putfield 59, 3)) (h : E G y Z k n (pc + 3) ls st (Hp (up μ r 1 x))) (ho : (iY y).cls = RX5 := by rfl) : E G y Z k n pc ls (vi x :: .ref r :: st) (Hp μ) := by
  refine E_put (ci := 7) (kf := 1) (ty0 := tyX8) (ty := .int) hd rfl inX8 tyX8_ok nmX8 (by decide) (by rw [ho]; exact flX5_59) rfl (by decide +kernel) rfl rfl (Hp_get hs) (by simp) ?_
  rw [← Hp_set hs up_ne] at h
  simpa [cell, up] using h
theorem flX5_62 : Cond.fieldLink RX5 62 (TX8 2).1 (TX8 2).2.1 (TX8 2).2.2.1 ∈ lw_ok := lw_in (List.mem_of_getElem? (i := 113) (by decide +kernel)) rfl
theorem GX5_62 {r nn : Nat} {a0 a1 : Nat} (hs : SK[r]? = some (17, nn, [a0, a1])) (hd : decode (iC y) pc = .ok (.getfield 62, 3)) (h : E G y Z k n (pc + 3) ls (vi (μ r 2) :: st) (Hp μ)) (ho : (iY y).cls = RX5 := by rfl) : E G y Z k n pc ls (.ref r :: st) (Hp μ) :=
  E_get (ci := 7) (kf := 2) hd rfl inX8 (by decide) (by rw [ho]; exact flX5_62) (Hp_get hs) rfl h
theorem PX5_62 {r nn : Nat} {a0 a1 : Nat} {x : Int} (hs : SK[r]? = some (17, nn, [a0, a1])) (hd : decode (iC y) pc = .ok (.putfield 62, 3)) (h : E G y Z k n (pc + 3) ls st (Hp (up μ r 2 x))) (ho : (iY y).cls = RX5 := by rfl) : E G y Z k n pc ls (vi x :: .ref r :: st) (Hp μ) := by
  refine E_put (ci := 7) (kf := 2) (ty0 := tyX8) (ty := .int) hd rfl inX8 tyX8_ok nmX8 (by decide) (by rw [ho]; exact flX5_62) rfl (by decide +kernel) rfl rfl (Hp_get hs) (by simp) ?_
  rw [← Hp_set hs up_ne] at h
  simpa [cell, up] using h
theorem flX5_86 : Cond.fieldLink RX5 86 "FibredSpaces$Permuting" "PRODUCTS" "[I" ∈ lw_ok := lw_in (List.mem_of_getElem? (i := 656) (by decide +kernel)) rfl
theorem flX6_11 : Cond.fieldLink RX6 11 (TX6 0).1 (TX6 0).2.1 (TX6 0).2.2.1 ∈ lw_ok := lw_in (List.mem_of_getElem? (i := 147) (by decide +kernel)) rfl
theorem GX6_11 {r nn : Nat} {a0 : Nat} (hs : SK[r]? = some (15, nn, [a0])) (hd : decode (iC y) pc = .ok (.getfield 11, 3)) (h : E G y Z k n (pc + 3) ls (.ref a0 :: st) (Hp μ)) (ho : (iY y).cls = RX6 := by rfl) : E G y Z k n pc ls (.ref r :: st) (Hp μ) :=
  E_get (ci := 5) (kf := 0) hd rfl inX6 (by decide) (by rw [ho]; exact flX6_11) (Hp_get hs) rfl h
theorem flX6_22 : Cond.fieldLink RX6 22 (TX8 3).1 (TX8 3).2.1 (TX8 3).2.2.1 ∈ lw_ok := lw_in (List.mem_of_getElem? (i := 118) (by decide +kernel)) rfl
theorem GX6_22 {r nn : Nat} {a0 a1 : Nat} (hs : SK[r]? = some (17, nn, [a0, a1])) (hd : decode (iC y) pc = .ok (.getfield 22, 3)) (h : E G y Z k n (pc + 3) ls (vi (μ r 3) :: st) (Hp μ)) (ho : (iY y).cls = RX6 := by rfl) : E G y Z k n pc ls (.ref r :: st) (Hp μ) :=
  E_get (ci := 7) (kf := 3) hd rfl inX8 (by decide) (by rw [ho]; exact flX6_22) (Hp_get hs) rfl h
theorem PX6_22 {r nn : Nat} {a0 a1 : Nat} {x : Int} (hs : SK[r]? = some (17, nn, [a0, a1])) (hd : decode (iC y) pc = .ok (.putfield 22, 3)) (h : E G y Z k n (pc + 3) ls st (Hp (up μ r 3 x))) (ho : (iY y).cls = RX6 := by rfl) : E G y Z k n pc ls (vi x :: .ref r :: st) (Hp μ) := by
  refine E_put (ci := 7) (kf := 3) (ty0 := tyX8) (ty := .int) hd rfl inX8 tyX8_ok nmX8 (by decide) (by rw [ho]; exact flX6_22) rfl (by decide +kernel) rfl rfl (Hp_get hs) (by simp) ?_
  rw [← Hp_set hs up_ne] at h
  simpa [cell, up] using h
theorem flX7_9 : Cond.fieldLink RX7 9 (TX7 0).1 (TX7 0).2.1 (TX7 0).2.2.1 ∈ lw_ok := lw_in (List.mem_of_getElem? (i := 214) (by decide +kernel)) rfl
theorem GX7_9 {r nn : Nat} {a0 a1 : Nat} (hs : SK[r]? = some (16, nn, [a0, a1])) (hd : decode (iC y) pc = .ok (.getfield 9, 3)) (h : E G y Z k n (pc + 3) ls (.ref a0 :: st) (Hp μ)) (ho : (iY y).cls = RX7 := by rfl) : E G y Z k n pc ls (.ref r :: st) (Hp μ) :=
  E_get (ci := 6) (kf := 0) hd rfl inX7 (by decide) (by rw [ho]; exact flX7_9) (Hp_get hs) rfl h
theorem flX7_15 : Cond.fieldLink RX7 15 (TX7 1).1 (TX7 1).2.1 (TX7 1).2.2.1 ∈ lw_ok := lw_in (List.mem_of_getElem? (i := 215) (by decide +kernel)) rfl
theorem GX7_15 {r nn : Nat} {a0 a1 : Nat} (hs : SK[r]? = some (16, nn, [a0, a1])) (hd : decode (iC y) pc = .ok (.getfield 15, 3)) (h : E G y Z k n (pc + 3) ls (.ref a1 :: st) (Hp μ)) (ho : (iY y).cls = RX7 := by rfl) : E G y Z k n pc ls (.ref r :: st) (Hp μ) :=
  E_get (ci := 6) (kf := 1) hd rfl inX7 (by decide) (by rw [ho]; exact flX7_15) (Hp_get hs) rfl h
theorem flX7_19 : Cond.fieldLink RX7 19 (TX7 2).1 (TX7 2).2.1 (TX7 2).2.2.1 ∈ lw_ok := lw_in (List.mem_of_getElem? (i := 216) (by decide +kernel)) rfl
theorem GX7_19 {r nn : Nat} {a0 a1 : Nat} (hs : SK[r]? = some (16, nn, [a0, a1])) (hd : decode (iC y) pc = .ok (.getfield 19, 3)) (h : E G y Z k n (pc + 3) ls (vi (μ r 2) :: st) (Hp μ)) (ho : (iY y).cls = RX7 := by rfl) : E G y Z k n pc ls (.ref r :: st) (Hp μ) :=
  E_get (ci := 6) (kf := 2) hd rfl inX7 (by decide) (by rw [ho]; exact flX7_19) (Hp_get hs) rfl h
theorem PX7_19 {r nn : Nat} {a0 a1 : Nat} {x : Int} (hs : SK[r]? = some (16, nn, [a0, a1])) (hd : decode (iC y) pc = .ok (.putfield 19, 3)) (h : E G y Z k n (pc + 3) ls st (Hp (up μ r 2 x))) (ho : (iY y).cls = RX7 := by rfl) : E G y Z k n pc ls (vi x :: .ref r :: st) (Hp μ) := by
  refine E_put (ci := 6) (kf := 2) (ty0 := tyX7) (ty := .int) hd rfl inX7 tyX7_ok nmX7 (by decide) (by rw [ho]; exact flX7_19) rfl (by decide +kernel) rfl rfl (Hp_get hs) (by simp) ?_
  rw [← Hp_set hs up_ne] at h
  simpa [cell, up] using h
theorem flX8_9 : Cond.fieldLink RX8 9 (TX8 5).1 (TX8 5).2.1 (TX8 5).2.2.1 ∈ lw_ok := lw_in (List.mem_of_getElem? (i := 122) (by decide +kernel)) rfl
theorem GX8_9 {r nn : Nat} {a0 a1 : Nat} (hs : SK[r]? = some (17, nn, [a0, a1])) (hd : decode (iC y) pc = .ok (.getfield 9, 3)) (h : E G y Z k n (pc + 3) ls (.ref a0 :: st) (Hp μ)) (ho : (iY y).cls = RX8 := by rfl) : E G y Z k n pc ls (.ref r :: st) (Hp μ) :=
  E_get (ci := 7) (kf := 5) hd rfl inX8 (by decide) (by rw [ho]; exact flX8_9) (Hp_get hs) rfl h
theorem flX8_15 : Cond.fieldLink RX8 15 (TX8 6).1 (TX8 6).2.1 (TX8 6).2.2.1 ∈ lw_ok := lw_in (List.mem_of_getElem? (i := 127) (by decide +kernel)) rfl
theorem GX8_15 {r nn : Nat} {a0 a1 : Nat} (hs : SK[r]? = some (17, nn, [a0, a1])) (hd : decode (iC y) pc = .ok (.getfield 15, 3)) (h : E G y Z k n (pc + 3) ls (.ref a1 :: st) (Hp μ)) (ho : (iY y).cls = RX8 := by rfl) : E G y Z k n pc ls (.ref r :: st) (Hp μ) :=
  E_get (ci := 7) (kf := 6) hd rfl inX8 (by decide) (by rw [ho]; exact flX8_15) (Hp_get hs) rfl h
theorem flX8_18 : Cond.fieldLink RX8 18 (TX8 0).1 (TX8 0).2.1 (TX8 0).2.2.1 ∈ lw_ok := lw_in (List.mem_of_getElem? (i := 103) (by decide +kernel)) rfl
theorem GX8_18 {r nn : Nat} {a0 a1 : Nat} (hs : SK[r]? = some (17, nn, [a0, a1])) (hd : decode (iC y) pc = .ok (.getfield 18, 3)) (h : E G y Z k n (pc + 3) ls (vi (μ r 0) :: st) (Hp μ)) (ho : (iY y).cls = RX8 := by rfl) : E G y Z k n pc ls (.ref r :: st) (Hp μ) :=
  E_get (ci := 7) (kf := 0) hd rfl inX8 (by decide) (by rw [ho]; exact flX8_18) (Hp_get hs) rfl h
theorem PX8_18 {r nn : Nat} {a0 a1 : Nat} {x : Int} (hs : SK[r]? = some (17, nn, [a0, a1])) (hd : decode (iC y) pc = .ok (.putfield 18, 3)) (h : E G y Z k n (pc + 3) ls st (Hp (up μ r 0 x))) (ho : (iY y).cls = RX8 := by rfl) : E G y Z k n pc ls (vi x :: .ref r :: st) (Hp μ) := by
  refine E_put (ci := 7) (kf := 0) (ty0 := tyX8) (ty := .int) hd rfl inX8 tyX8_ok nmX8 (by decide) (by rw [ho]; exact flX8_18) rfl (by decide +kernel) rfl rfl (Hp_get hs) (by simp) ?_
  rw [← Hp_set hs up_ne] at h
  simpa [cell, up] using h
theorem flX8_22 : Cond.fieldLink RX8 22 (TX8 1).1 (TX8 1).2.1 (TX8 1).2.2.1 ∈ lw_ok := lw_in (List.mem_of_getElem? (i := 107) (by decide +kernel)) rfl
theorem GX8_22 {r nn : Nat} {a0 a1 : Nat} (hs : SK[r]? = some (17, nn, [a0, a1])) (hd : decode (iC y) pc = .ok (.getfield 22, 3)) (h : E G y Z k n (pc + 3) ls (vi (μ r 1) :: st) (Hp μ)) (ho : (iY y).cls = RX8 := by rfl) : E G y Z k n pc ls (.ref r :: st) (Hp μ) :=
  E_get (ci := 7) (kf := 1) hd rfl inX8 (by decide) (by rw [ho]; exact flX8_22) (Hp_get hs) rfl h
theorem PX8_22 {r nn : Nat} {a0 a1 : Nat} {x : Int} (hs : SK[r]? = some (17, nn, [a0, a1])) (hd : decode (iC y) pc = .ok (.putfield 22, 3)) (h : E G y Z k n (pc + 3) ls st (Hp (up μ r 1 x))) (ho : (iY y).cls = RX8 := by rfl) : E G y Z k n pc ls (vi x :: .ref r :: st) (Hp μ) := by
  refine E_put (ci := 7) (kf := 1) (ty0 := tyX8) (ty := .int) hd rfl inX8 tyX8_ok nmX8 (by decide) (by rw [ho]; exact flX8_22) rfl (by decide +kernel) rfl rfl (Hp_get hs) (by simp) ?_
  rw [← Hp_set hs up_ne] at h
  simpa [cell, up] using h
theorem flX8_25 : Cond.fieldLink RX8 25 (TX8 2).1 (TX8 2).2.1 (TX8 2).2.2.1 ∈ lw_ok := lw_in (List.mem_of_getElem? (i := 111) (by decide +kernel)) rfl
theorem GX8_25 {r nn : Nat} {a0 a1 : Nat} (hs : SK[r]? = some (17, nn, [a0, a1])) (hd : decode (iC y) pc = .ok (.getfield 25, 3)) (h : E G y Z k n (pc + 3) ls (vi (μ r 2) :: st) (Hp μ)) (ho : (iY y).cls = RX8 := by rfl) : E G y Z k n pc ls (.ref r :: st) (Hp μ) :=
  E_get (ci := 7) (kf := 2) hd rfl inX8 (by decide) (by rw [ho]; exact flX8_25) (Hp_get hs) rfl h
theorem PX8_25 {r nn : Nat} {a0 a1 : Nat} {x : Int} (hs : SK[r]? = some (17, nn, [a0, a1])) (hd : decode (iC y) pc = .ok (.putfield 25, 3)) (h : E G y Z k n (pc + 3) ls st (Hp (up μ r 2 x))) (ho : (iY y).cls = RX8 := by rfl) : E G y Z k n pc ls (vi x :: .ref r :: st) (Hp μ) := by
  refine E_put (ci := 7) (kf := 2) (ty0 := tyX8) (ty := .int) hd rfl inX8 tyX8_ok nmX8 (by decide) (by rw [ho]; exact flX8_25) rfl (by decide +kernel) rfl rfl (Hp_get hs) (by simp) ?_
  rw [← Hp_set hs up_ne] at h
  simpa [cell, up] using h
theorem flX8_28 : Cond.fieldLink RX8 28 (TX8 3).1 (TX8 3).2.1 (TX8 3).2.2.1 ∈ lw_ok := lw_in (List.mem_of_getElem? (i := 117) (by decide +kernel)) rfl
theorem GX8_28 {r nn : Nat} {a0 a1 : Nat} (hs : SK[r]? = some (17, nn, [a0, a1])) (hd : decode (iC y) pc = .ok (.getfield 28, 3)) (h : E G y Z k n (pc + 3) ls (vi (μ r 3) :: st) (Hp μ)) (ho : (iY y).cls = RX8 := by rfl) : E G y Z k n pc ls (.ref r :: st) (Hp μ) :=
  E_get (ci := 7) (kf := 3) hd rfl inX8 (by decide) (by rw [ho]; exact flX8_28) (Hp_get hs) rfl h
theorem PX8_28 {r nn : Nat} {a0 a1 : Nat} {x : Int} (hs : SK[r]? = some (17, nn, [a0, a1])) (hd : decode (iC y) pc = .ok (.putfield 28, 3)) (h : E G y Z k n (pc + 3) ls st (Hp (up μ r 3 x))) (ho : (iY y).cls = RX8 := by rfl) : E G y Z k n pc ls (vi x :: .ref r :: st) (Hp μ) := by
  refine E_put (ci := 7) (kf := 3) (ty0 := tyX8) (ty := .int) hd rfl inX8 tyX8_ok nmX8 (by decide) (by rw [ho]; exact flX8_28) rfl (by decide +kernel) rfl rfl (Hp_get hs) (by simp) ?_
  rw [← Hp_set hs up_ne] at h
  simpa [cell, up] using h
theorem flX8_31 : Cond.fieldLink RX8 31 (TX8 4).1 (TX8 4).2.1 (TX8 4).2.2.1 ∈ lw_ok := lw_in (List.mem_of_getElem? (i := 121) (by decide +kernel)) rfl
theorem GX8_31 {r nn : Nat} {a0 a1 : Nat} (hs : SK[r]? = some (17, nn, [a0, a1])) (hd : decode (iC y) pc = .ok (.getfield 31, 3)) (h : E G y Z k n (pc + 3) ls (vi (μ r 4) :: st) (Hp μ)) (ho : (iY y).cls = RX8 := by rfl) : E G y Z k n pc ls (.ref r :: st) (Hp μ) :=
  E_get (ci := 7) (kf := 4) hd rfl inX8 (by decide) (by rw [ho]; exact flX8_31) (Hp_get hs) rfl h
theorem PX8_31 {r nn : Nat} {a0 a1 : Nat} {x : Int} (hs : SK[r]? = some (17, nn, [a0, a1])) (hd : decode (iC y) pc = .ok (.putfield 31, 3)) (hx : x = 0 ∨ x = 1) (h : E G y Z k n (pc + 3) ls st (Hp (up μ r 4 x))) (ho : (iY y).cls = RX8 := by rfl) : E G y Z k n pc ls (vi x :: .ref r :: st) (Hp μ) := by
  refine E_put (ci := 7) (kf := 4) (ty0 := tyX8) (ty := .boolean) hd rfl inX8 tyX8_ok nmX8 (by decide) (by rw [ho]; exact flX8_31) rfl (by decide +kernel) (by rcases hx with rfl | rfl <;> rfl) (by rcases hx with rfl | rfl <;> rfl) (Hp_get hs) (by simp) ?_
  rw [← Hp_set hs up_ne] at h
  simpa [cell, up] using h
theorem flX9_9 : Cond.fieldLink RX9 9 (TX9 0).1 (TX9 0).2.1 (TX9 0).2.2.1 ∈ lw_ok := lw_in (List.mem_of_getElem? (i := 178) (by decide +kernel)) rfl
theorem GX9_9 {r nn : Nat} {a0 : Nat} (hs : SK[r]? = some (18, nn, [a0])) (hd : decode (iC y) pc = .ok (.getfield 9, 3)) (h : E G y Z k n (pc + 3) ls (.ref a0 :: st) (Hp μ)) (ho : (iY y).cls = RX9 := by rfl) : E G y Z k n pc ls (.ref r :: st) (Hp μ) :=
  E_get (ci := 8) (kf := 0) hd rfl inX9 (by decide) (by rw [ho]; exact flX9_9) (Hp_get hs) rfl h
theorem flX9_15 : Cond.fieldLink RX9 15 (TX9 1).1 (TX9 1).2.1 (TX9 1).2.2.1 ∈ lw_ok := lw_in (List.mem_of_getElem? (i := 179) (by decide +kernel)) rfl
theorem GX9_15 {r nn : Nat} {a0 : Nat} (hs : SK[r]? = some (18, nn, [a0])) (hd : decode (iC y) pc = .ok (.getfield 15, 3)) (h : E G y Z k n (pc + 3) ls (vi (μ r 1) :: st) (Hp μ)) (ho : (iY y).cls = RX9 := by rfl) : E G y Z k n pc ls (.ref r :: st) (Hp μ) :=
  E_get (ci := 8) (kf := 1) hd rfl inX9 (by decide) (by rw [ho]; exact flX9_15) (Hp_get hs) rfl h
theorem PX9_15 {r nn : Nat} {a0 : Nat} {x : Int} (hs : SK[r]? = some (18, nn, [a0])) (hd : decode (iC y) pc = .ok (.putfield 15, 3)) (h : E G y Z k n (pc + 3) ls st (Hp (up μ r 1 x))) (ho : (iY y).cls = RX9 := by rfl) : E G y Z k n pc ls (vi x :: .ref r :: st) (Hp μ) := by
  refine E_put (ci := 8) (kf := 1) (ty0 := tyX9) (ty := .int) hd rfl inX9 tyX9_ok nmX9 (by decide) (by rw [ho]; exact flX9_15) rfl (by decide +kernel) rfl rfl (Hp_get hs) (by simp) ?_
  rw [← Hp_set hs up_ne] at h
  simpa [cell, up] using h
theorem flX9_25 : Cond.fieldLink RX9 25 (TX9 2).1 (TX9 2).2.1 (TX9 2).2.2.1 ∈ lw_ok := lw_in (List.mem_of_getElem? (i := 181) (by decide +kernel)) rfl
theorem GX9_25 {r nn : Nat} {a0 : Nat} (hs : SK[r]? = some (18, nn, [a0])) (hd : decode (iC y) pc = .ok (.getfield 25, 3)) (h : E G y Z k n (pc + 3) ls (vi (μ r 2) :: st) (Hp μ)) (ho : (iY y).cls = RX9 := by rfl) : E G y Z k n pc ls (.ref r :: st) (Hp μ) :=
  E_get (ci := 8) (kf := 2) hd rfl inX9 (by decide) (by rw [ho]; exact flX9_25) (Hp_get hs) rfl h
theorem PX9_25 {r nn : Nat} {a0 : Nat} {x : Int} (hs : SK[r]? = some (18, nn, [a0])) (hd : decode (iC y) pc = .ok (.putfield 25, 3)) (h : E G y Z k n (pc + 3) ls st (Hp (up μ r 2 x))) (ho : (iY y).cls = RX9 := by rfl) : E G y Z k n pc ls (vi x :: .ref r :: st) (Hp μ) := by
  refine E_put (ci := 8) (kf := 2) (ty0 := tyX9) (ty := .int) hd rfl inX9 tyX9_ok nmX9 (by decide) (by rw [ho]; exact flX9_25) rfl (by decide +kernel) rfl rfl (Hp_get hs) (by simp) ?_
  rw [← Hp_set hs up_ne] at h
  simpa [cell, up] using h
theorem flX9_28 : Cond.fieldLink RX9 28 (TX9 6).1 (TX9 6).2.1 (TX9 6).2.2.1 ∈ lw_ok := lw_in (List.mem_of_getElem? (i := 185) (by decide +kernel)) rfl
theorem GX9_28 {r nn : Nat} {a0 : Nat} (hs : SK[r]? = some (18, nn, [a0])) (hd : decode (iC y) pc = .ok (.getfield 28, 3)) (h : E G y Z k n (pc + 3) ls (vi (μ r 6) :: st) (Hp μ)) (ho : (iY y).cls = RX9 := by rfl) : E G y Z k n pc ls (.ref r :: st) (Hp μ) :=
  E_get (ci := 8) (kf := 6) hd rfl inX9 (by decide) (by rw [ho]; exact flX9_28) (Hp_get hs) rfl h
theorem PX9_28 {r nn : Nat} {a0 : Nat} {x : Int} (hs : SK[r]? = some (18, nn, [a0])) (hd : decode (iC y) pc = .ok (.putfield 28, 3)) (h : E G y Z k n (pc + 3) ls st (Hp (up μ r 6 x))) (ho : (iY y).cls = RX9 := by rfl) : E G y Z k n pc ls (vi x :: .ref r :: st) (Hp μ) := by
  refine E_put (ci := 8) (kf := 6) (ty0 := tyX9) (ty := .int) hd rfl inX9 tyX9_ok nmX9 (by decide) (by rw [ho]; exact flX9_28) rfl (by decide +kernel) rfl rfl (Hp_get hs) (by simp) ?_
  rw [← Hp_set hs up_ne] at h
  simpa [cell, up] using h
theorem flX9_31 : Cond.fieldLink RX9 31 (TX9 7).1 (TX9 7).2.1 (TX9 7).2.2.1 ∈ lw_ok := lw_in (List.mem_of_getElem? (i := 186) (by decide +kernel)) rfl
theorem GX9_31 {r nn : Nat} {a0 : Nat} (hs : SK[r]? = some (18, nn, [a0])) (hd : decode (iC y) pc = .ok (.getfield 31, 3)) (h : E G y Z k n (pc + 3) ls (vi (μ r 7) :: st) (Hp μ)) (ho : (iY y).cls = RX9 := by rfl) : E G y Z k n pc ls (.ref r :: st) (Hp μ) :=
  E_get (ci := 8) (kf := 7) hd rfl inX9 (by decide) (by rw [ho]; exact flX9_31) (Hp_get hs) rfl h
theorem PX9_31 {r nn : Nat} {a0 : Nat} {x : Int} (hs : SK[r]? = some (18, nn, [a0])) (hd : decode (iC y) pc = .ok (.putfield 31, 3)) (h : E G y Z k n (pc + 3) ls st (Hp (up μ r 7 x))) (ho : (iY y).cls = RX9 := by rfl) : E G y Z k n pc ls (vi x :: .ref r :: st) (Hp μ) := by
  refine E_put (ci := 8) (kf := 7) (ty0 := tyX9) (ty := .int) hd rfl inX9 tyX9_ok nmX9 (by decide) (by rw [ho]; exact flX9_31) rfl (by decide +kernel) rfl rfl (Hp_get hs) (by simp) ?_
  rw [← Hp_set hs up_ne] at h
  simpa [cell, up] using h
theorem flX9_34 : Cond.fieldLink RX9 34 (TX9 8).1 (TX9 8).2.1 (TX9 8).2.2.1 ∈ lw_ok := lw_in (List.mem_of_getElem? (i := 187) (by decide +kernel)) rfl
theorem GX9_34 {r nn : Nat} {a0 : Nat} (hs : SK[r]? = some (18, nn, [a0])) (hd : decode (iC y) pc = .ok (.getfield 34, 3)) (h : E G y Z k n (pc + 3) ls (vi (μ r 8) :: st) (Hp μ)) (ho : (iY y).cls = RX9 := by rfl) : E G y Z k n pc ls (.ref r :: st) (Hp μ) :=
  E_get (ci := 8) (kf := 8) hd rfl inX9 (by decide) (by rw [ho]; exact flX9_34) (Hp_get hs) rfl h
theorem PX9_34 {r nn : Nat} {a0 : Nat} {x : Int} (hs : SK[r]? = some (18, nn, [a0])) (hd : decode (iC y) pc = .ok (.putfield 34, 3)) (h : E G y Z k n (pc + 3) ls st (Hp (up μ r 8 x))) (ho : (iY y).cls = RX9 := by rfl) : E G y Z k n pc ls (vi x :: .ref r :: st) (Hp μ) := by
  refine E_put (ci := 8) (kf := 8) (ty0 := tyX9) (ty := .int) hd rfl inX9 tyX9_ok nmX9 (by decide) (by rw [ho]; exact flX9_34) rfl (by decide +kernel) rfl rfl (Hp_get hs) (by simp) ?_
  rw [← Hp_set hs up_ne] at h
  simpa [cell, up] using h
theorem flX9_40 : Cond.fieldLink RX9 40 (TX9 3).1 (TX9 3).2.1 (TX9 3).2.2.1 ∈ lw_ok := lw_in (List.mem_of_getElem? (i := 182) (by decide +kernel)) rfl
theorem GX9_40 {r nn : Nat} {a0 : Nat} (hs : SK[r]? = some (18, nn, [a0])) (hd : decode (iC y) pc = .ok (.getfield 40, 3)) (h : E G y Z k n (pc + 3) ls (vi (μ r 3) :: st) (Hp μ)) (ho : (iY y).cls = RX9 := by rfl) : E G y Z k n pc ls (.ref r :: st) (Hp μ) :=
  E_get (ci := 8) (kf := 3) hd rfl inX9 (by decide) (by rw [ho]; exact flX9_40) (Hp_get hs) rfl h
theorem PX9_40 {r nn : Nat} {a0 : Nat} {x : Int} (hs : SK[r]? = some (18, nn, [a0])) (hd : decode (iC y) pc = .ok (.putfield 40, 3)) (h : E G y Z k n (pc + 3) ls st (Hp (up μ r 3 x))) (ho : (iY y).cls = RX9 := by rfl) : E G y Z k n pc ls (vi x :: .ref r :: st) (Hp μ) := by
  refine E_put (ci := 8) (kf := 3) (ty0 := tyX9) (ty := .int) hd rfl inX9 tyX9_ok nmX9 (by decide) (by rw [ho]; exact flX9_40) rfl (by decide +kernel) rfl rfl (Hp_get hs) (by simp) ?_
  rw [← Hp_set hs up_ne] at h
  simpa [cell, up] using h
theorem flX9_47 : Cond.fieldLink RX9 47 (TX9 4).1 (TX9 4).2.1 (TX9 4).2.2.1 ∈ lw_ok := lw_in (List.mem_of_getElem? (i := 183) (by decide +kernel)) rfl
theorem GX9_47 {r nn : Nat} {a0 : Nat} (hs : SK[r]? = some (18, nn, [a0])) (hd : decode (iC y) pc = .ok (.getfield 47, 3)) (h : E G y Z k n (pc + 3) ls (vi (μ r 4) :: st) (Hp μ)) (ho : (iY y).cls = RX9 := by rfl) : E G y Z k n pc ls (.ref r :: st) (Hp μ) :=
  E_get (ci := 8) (kf := 4) hd rfl inX9 (by decide) (by rw [ho]; exact flX9_47) (Hp_get hs) rfl h
theorem PX9_47 {r nn : Nat} {a0 : Nat} {x : Int} (hs : SK[r]? = some (18, nn, [a0])) (hd : decode (iC y) pc = .ok (.putfield 47, 3)) (h : E G y Z k n (pc + 3) ls st (Hp (up μ r 4 x))) (ho : (iY y).cls = RX9 := by rfl) : E G y Z k n pc ls (vi x :: .ref r :: st) (Hp μ) := by
  refine E_put (ci := 8) (kf := 4) (ty0 := tyX9) (ty := .int) hd rfl inX9 tyX9_ok nmX9 (by decide) (by rw [ho]; exact flX9_47) rfl (by decide +kernel) rfl rfl (Hp_get hs) (by simp) ?_
  rw [← Hp_set hs up_ne] at h
  simpa [cell, up] using h
theorem flX9_60 : Cond.fieldLink RX9 60 (TX9 5).1 (TX9 5).2.1 (TX9 5).2.2.1 ∈ lw_ok := lw_in (List.mem_of_getElem? (i := 184) (by decide +kernel)) rfl
theorem GX9_60 {r nn : Nat} {a0 : Nat} (hs : SK[r]? = some (18, nn, [a0])) (hd : decode (iC y) pc = .ok (.getfield 60, 3)) (h : E G y Z k n (pc + 3) ls (vi (μ r 5) :: st) (Hp μ)) (ho : (iY y).cls = RX9 := by rfl) : E G y Z k n pc ls (.ref r :: st) (Hp μ) :=
  E_get (ci := 8) (kf := 5) hd rfl inX9 (by decide) (by rw [ho]; exact flX9_60) (Hp_get hs) rfl h
theorem PX9_60 {r nn : Nat} {a0 : Nat} {x : Int} (hs : SK[r]? = some (18, nn, [a0])) (hd : decode (iC y) pc = .ok (.putfield 60, 3)) (h : E G y Z k n (pc + 3) ls st (Hp (up μ r 5 x))) (ho : (iY y).cls = RX9 := by rfl) : E G y Z k n pc ls (vi x :: .ref r :: st) (Hp μ) := by
  refine E_put (ci := 8) (kf := 5) (ty0 := tyX9) (ty := .int) hd rfl inX9 tyX9_ok nmX9 (by decide) (by rw [ho]; exact flX9_60) rfl (by decide +kernel) rfl rfl (Hp_get hs) (by simp) ?_
  rw [← Hp_set hs up_ne] at h
  simpa [cell, up] using h
theorem flX11_7 : Cond.fieldLink RX11 7 (TX11 0).1 (TX11 0).2.1 (TX11 0).2.2.1 ∈ lw_ok := lw_in (List.mem_of_getElem? (i := 765) (by decide +kernel)) rfl
theorem GX11_7 {r nn : Nat} {a0 a1 a2 a3 a4 a5 a6 a7 a8 a9 a10 a11 a12 a13 a14 : Nat} (hs : SK[r]? = some (20, nn, [a0, a1, a2, a3, a4, a5, a6, a7, a8, a9, a10, a11, a12, a13, a14])) (hd : decode (iC y) pc = .ok (.getfield 7, 3)) (h : E G y Z k n (pc + 3) ls (.ref a0 :: st) (Hp μ)) (ho : (iY y).cls = RX11 := by rfl) : E G y Z k n pc ls (.ref r :: st) (Hp μ) :=
  E_get (ci := 10) (kf := 0) hd rfl inX11 (by decide) (by rw [ho]; exact flX11_7) (Hp_get hs) rfl h
theorem flX11_13 : Cond.fieldLink RX11 13 (TX11 1).1 (TX11 1).2.1 (TX11 1).2.2.1 ∈ lw_ok := lw_in (List.mem_of_getElem? (i := 766) (by decide +kernel)) rfl
theorem GX11_13 {r nn : Nat} {a0 a1 a2 a3 a4 a5 a6 a7 a8 a9 a10 a11 a12 a13 a14 : Nat} (hs : SK[r]? = some (20, nn, [a0, a1, a2, a3, a4, a5, a6, a7, a8, a9, a10, a11, a12, a13, a14])) (hd : decode (iC y) pc = .ok (.getfield 13, 3)) (h : E G y Z k n (pc + 3) ls (.ref a1 :: st) (Hp μ)) (ho : (iY y).cls = RX11 := by rfl) : E G y Z k n pc ls (.ref r :: st) (Hp μ) :=
  E_get (ci := 10) (kf := 1) hd rfl inX11 (by decide) (by rw [ho]; exact flX11_13) (Hp_get hs) rfl h
theorem flX11_16 : Cond.fieldLink RX11 16 (TX11 3).1 (TX11 3).2.1 (TX11 3).2.2.1 ∈ lw_ok := lw_in (List.mem_of_getElem? (i := 768) (by decide +kernel)) rfl
theorem GX11_16 {r nn : Nat} {a0 a1 a2 a3 a4 a5 a6 a7 a8 a9 a10 a11 a12 a13 a14 : Nat} (hs : SK[r]? = some (20, nn, [a0, a1, a2, a3, a4, a5, a6, a7, a8, a9, a10, a11, a12, a13, a14])) (hd : decode (iC y) pc = .ok (.getfield 16, 3)) (h : E G y Z k n (pc + 3) ls (.ref a2 :: st) (Hp μ)) (ho : (iY y).cls = RX11 := by rfl) : E G y Z k n pc ls (.ref r :: st) (Hp μ) :=
  E_get (ci := 10) (kf := 3) hd rfl inX11 (by decide) (by rw [ho]; exact flX11_16) (Hp_get hs) rfl h
theorem flX11_19 : Cond.fieldLink RX11 19 (TX11 4).1 (TX11 4).2.1 (TX11 4).2.2.1 ∈ lw_ok := lw_in (List.mem_of_getElem? (i := 769) (by decide +kernel)) rfl
theorem GX11_19 {r nn : Nat} {a0 a1 a2 a3 a4 a5 a6 a7 a8 a9 a10 a11 a12 a13 a14 : Nat} (hs : SK[r]? = some (20, nn, [a0, a1, a2, a3, a4, a5, a6, a7, a8, a9, a10, a11, a12, a13, a14])) (hd : decode (iC y) pc = .ok (.getfield 19, 3)) (h : E G y Z k n (pc + 3) ls (.ref a3 :: st) (Hp μ)) (ho : (iY y).cls = RX11 := by rfl) : E G y Z k n pc ls (.ref r :: st) (Hp μ) :=
  E_get (ci := 10) (kf := 4) hd rfl inX11 (by decide) (by rw [ho]; exact flX11_19) (Hp_get hs) rfl h
theorem flX11_23 : Cond.fieldLink RX11 23 (TX11 9).1 (TX11 9).2.1 (TX11 9).2.2.1 ∈ lw_ok := lw_in (List.mem_of_getElem? (i := 774) (by decide +kernel)) rfl
theorem GX11_23 {r nn : Nat} {a0 a1 a2 a3 a4 a5 a6 a7 a8 a9 a10 a11 a12 a13 a14 : Nat} (hs : SK[r]? = some (20, nn, [a0, a1, a2, a3, a4, a5, a6, a7, a8, a9, a10, a11, a12, a13, a14])) (hd : decode (iC y) pc = .ok (.getfield 23, 3)) (h : E G y Z k n (pc + 3) ls (.ref a4 :: st) (Hp μ)) (ho : (iY y).cls = RX11 := by rfl) : E G y Z k n pc ls (.ref r :: st) (Hp μ) :=
  E_get (ci := 10) (kf := 9) hd rfl inX11 (by decide) (by rw [ho]; exact flX11_23) (Hp_get hs) rfl h
theorem flX11_26 : Cond.fieldLink RX11 26 (TX11 10).1 (TX11 10).2.1 (TX11 10).2.2.1 ∈ lw_ok := lw_in (List.mem_of_getElem? (i := 775) (by decide +kernel)) rfl
theorem GX11_26 {r nn : Nat} {a0 a1 a2 a3 a4 a5 a6 a7 a8 a9 a10 a11 a12 a13 a14 : Nat} (hs : SK[r]? = some (20, nn, [a0, a1, a2, a3, a4, a5, a6, a7, a8, a9, a10, a11, a12, a13, a14])) (hd : decode (iC y) pc = .ok (.getfield 26, 3)) (h : E G y Z k n (pc + 3) ls (.ref a5 :: st) (Hp μ)) (ho : (iY y).cls = RX11 := by rfl) : E G y Z k n pc ls (.ref r :: st) (Hp μ) :=
  E_get (ci := 10) (kf := 10) hd rfl inX11 (by decide) (by rw [ho]; exact flX11_26) (Hp_get hs) rfl h
theorem flX11_29 : Cond.fieldLink RX11 29 (TX11 11).1 (TX11 11).2.1 (TX11 11).2.2.1 ∈ lw_ok := lw_in (List.mem_of_getElem? (i := 776) (by decide +kernel)) rfl
theorem GX11_29 {r nn : Nat} {a0 a1 a2 a3 a4 a5 a6 a7 a8 a9 a10 a11 a12 a13 a14 : Nat} (hs : SK[r]? = some (20, nn, [a0, a1, a2, a3, a4, a5, a6, a7, a8, a9, a10, a11, a12, a13, a14])) (hd : decode (iC y) pc = .ok (.getfield 29, 3)) (h : E G y Z k n (pc + 3) ls (.ref a6 :: st) (Hp μ)) (ho : (iY y).cls = RX11 := by rfl) : E G y Z k n pc ls (.ref r :: st) (Hp μ) :=
  E_get (ci := 10) (kf := 11) hd rfl inX11 (by decide) (by rw [ho]; exact flX11_29) (Hp_get hs) rfl h
theorem flX11_32 : Cond.fieldLink RX11 32 (TX11 20).1 (TX11 20).2.1 (TX11 20).2.2.1 ∈ lw_ok := lw_in (List.mem_of_getElem? (i := 785) (by decide +kernel)) rfl
theorem GX11_32 {r nn : Nat} {a0 a1 a2 a3 a4 a5 a6 a7 a8 a9 a10 a11 a12 a13 a14 : Nat} (hs : SK[r]? = some (20, nn, [a0, a1, a2, a3, a4, a5, a6, a7, a8, a9, a10, a11, a12, a13, a14])) (hd : decode (iC y) pc = .ok (.getfield 32, 3)) (h : E G y Z k n (pc + 3) ls (.ref a7 :: st) (Hp μ)) (ho : (iY y).cls = RX11 := by rfl) : E G y Z k n pc ls (.ref r :: st) (Hp μ) :=
  E_get (ci := 10) (kf := 20) hd rfl inX11 (by decide) (by rw [ho]; exact flX11_32) (Hp_get hs) rfl h
theorem flX11_36 : Cond.fieldLink RX11 36 (TX11 22).1 (TX11 22).2.1 (TX11 22).2.2.1 ∈ lw_ok := lw_in (List.mem_of_getElem? (i := 787) (by decide +kernel)) rfl
theorem GX11_36 {r nn : Nat} {a0 a1 a2 a3 a4 a5 a6 a7 a8 a9 a10 a11 a12 a13 a14 : Nat} (hs : SK[r]? = some (20, nn, [a0, a1, a2, a3, a4, a5, a6, a7, a8, a9, a10, a11, a12, a13, a14])) (hd : decode (iC y) pc = .ok (.getfield 36, 3)) (h : E G y Z k n (pc + 3) ls (.ref a8 :: st) (Hp μ)) (ho : (iY y).cls = RX11 := by rfl) : E G y Z k n pc ls (.ref r :: st) (Hp μ) :=
  E_get (ci := 10) (kf := 22) hd rfl inX11 (by decide) (by rw [ho]; exact flX11_36) (Hp_get hs) rfl h
theorem flX11_39 : Cond.fieldLink RX11 39 (TX11 23).1 (TX11 23).2.1 (TX11 23).2.2.1 ∈ lw_ok := lw_in (List.mem_of_getElem? (i := 788) (by decide +kernel)) rfl
theorem GX11_39 {r nn : Nat} {a0 a1 a2 a3 a4 a5 a6 a7 a8 a9 a10 a11 a12 a13 a14 : Nat} (hs : SK[r]? = some (20, nn, [a0, a1, a2, a3, a4, a5, a6, a7, a8, a9, a10, a11, a12, a13, a14])) (hd : decode (iC y) pc = .ok (.getfield 39, 3)) (h : E G y Z k n (pc + 3) ls (.ref a9 :: st) (Hp μ)) (ho : (iY y).cls = RX11 := by rfl) : E G y Z k n pc ls (.ref r :: st) (Hp μ) :=
  E_get (ci := 10) (kf := 23) hd rfl inX11 (by decide) (by rw [ho]; exact flX11_39) (Hp_get hs) rfl h
theorem flX11_42 : Cond.fieldLink RX11 42 (TX11 24).1 (TX11 24).2.1 (TX11 24).2.2.1 ∈ lw_ok := lw_in (List.mem_of_getElem? (i := 789) (by decide +kernel)) rfl
theorem GX11_42 {r nn : Nat} {a0 a1 a2 a3 a4 a5 a6 a7 a8 a9 a10 a11 a12 a13 a14 : Nat} (hs : SK[r]? = some (20, nn, [a0, a1, a2, a3, a4, a5, a6, a7, a8, a9, a10, a11, a12, a13, a14])) (hd : decode (iC y) pc = .ok (.getfield 42, 3)) (h : E G y Z k n (pc + 3) ls (.ref a10 :: st) (Hp μ)) (ho : (iY y).cls = RX11 := by rfl) : E G y Z k n pc ls (.ref r :: st) (Hp μ) :=
  E_get (ci := 10) (kf := 24) hd rfl inX11 (by decide) (by rw [ho]; exact flX11_42) (Hp_get hs) rfl h
theorem flX11_45 : Cond.fieldLink RX11 45 (TX11 25).1 (TX11 25).2.1 (TX11 25).2.2.1 ∈ lw_ok := lw_in (List.mem_of_getElem? (i := 790) (by decide +kernel)) rfl
theorem GX11_45 {r nn : Nat} {a0 a1 a2 a3 a4 a5 a6 a7 a8 a9 a10 a11 a12 a13 a14 : Nat} (hs : SK[r]? = some (20, nn, [a0, a1, a2, a3, a4, a5, a6, a7, a8, a9, a10, a11, a12, a13, a14])) (hd : decode (iC y) pc = .ok (.getfield 45, 3)) (h : E G y Z k n (pc + 3) ls (.ref a11 :: st) (Hp μ)) (ho : (iY y).cls = RX11 := by rfl) : E G y Z k n pc ls (.ref r :: st) (Hp μ) :=
  E_get (ci := 10) (kf := 25) hd rfl inX11 (by decide) (by rw [ho]; exact flX11_45) (Hp_get hs) rfl h
theorem flX11_48 : Cond.fieldLink RX11 48 (TX11 29).1 (TX11 29).2.1 (TX11 29).2.2.1 ∈ lw_ok := lw_in (List.mem_of_getElem? (i := 794) (by decide +kernel)) rfl
theorem GX11_48 {r nn : Nat} {a0 a1 a2 a3 a4 a5 a6 a7 a8 a9 a10 a11 a12 a13 a14 : Nat} (hs : SK[r]? = some (20, nn, [a0, a1, a2, a3, a4, a5, a6, a7, a8, a9, a10, a11, a12, a13, a14])) (hd : decode (iC y) pc = .ok (.getfield 48, 3)) (h : E G y Z k n (pc + 3) ls (.ref a12 :: st) (Hp μ)) (ho : (iY y).cls = RX11 := by rfl) : E G y Z k n pc ls (.ref r :: st) (Hp μ) :=
  E_get (ci := 10) (kf := 29) hd rfl inX11 (by decide) (by rw [ho]; exact flX11_48) (Hp_get hs) rfl h
theorem flX11_51 : Cond.fieldLink RX11 51 (TX11 30).1 (TX11 30).2.1 (TX11 30).2.2.1 ∈ lw_ok := lw_in (List.mem_of_getElem? (i := 795) (by decide +kernel)) rfl
theorem GX11_51 {r nn : Nat} {a0 a1 a2 a3 a4 a5 a6 a7 a8 a9 a10 a11 a12 a13 a14 : Nat} (hs : SK[r]? = some (20, nn, [a0, a1, a2, a3, a4, a5, a6, a7, a8, a9, a10, a11, a12, a13, a14])) (hd : decode (iC y) pc = .ok (.getfield 51, 3)) (h : E G y Z k n (pc + 3) ls (.ref a13 :: st) (Hp μ)) (ho : (iY y).cls = RX11 := by rfl) : E G y Z k n pc ls (.ref r :: st) (Hp μ) :=
  E_get (ci := 10) (kf := 30) hd rfl inX11 (by decide) (by rw [ho]; exact flX11_51) (Hp_get hs) rfl h
theorem flX11_54 : Cond.fieldLink RX11 54 (TX11 31).1 (TX11 31).2.1 (TX11 31).2.2.1 ∈ lw_ok := lw_in (List.mem_of_getElem? (i := 796) (by decide +kernel)) rfl
theorem GX11_54 {r nn : Nat} {a0 a1 a2 a3 a4 a5 a6 a7 a8 a9 a10 a11 a12 a13 a14 : Nat} (hs : SK[r]? = some (20, nn, [a0, a1, a2, a3, a4, a5, a6, a7, a8, a9, a10, a11, a12, a13, a14])) (hd : decode (iC y) pc = .ok (.getfield 54, 3)) (h : E G y Z k n (pc + 3) ls (.ref a14 :: st) (Hp μ)) (ho : (iY y).cls = RX11 := by rfl) : E G y Z k n pc ls (.ref r :: st) (Hp μ) :=
  E_get (ci := 10) (kf := 31) hd rfl inX11 (by decide) (by rw [ho]; exact flX11_54) (Hp_get hs) rfl h
theorem flX11_57 : Cond.fieldLink RX11 57 (TX11 2).1 (TX11 2).2.1 (TX11 2).2.2.1 ∈ lw_ok := lw_in (List.mem_of_getElem? (i := 767) (by decide +kernel)) rfl
theorem GX11_57 {r nn : Nat} {a0 a1 a2 a3 a4 a5 a6 a7 a8 a9 a10 a11 a12 a13 a14 : Nat} (hs : SK[r]? = some (20, nn, [a0, a1, a2, a3, a4, a5, a6, a7, a8, a9, a10, a11, a12, a13, a14])) (hd : decode (iC y) pc = .ok (.getfield 57, 3)) (h : E G y Z k n (pc + 3) ls (vi (μ r 2) :: st) (Hp μ)) (ho : (iY y).cls = RX11 := by rfl) : E G y Z k n pc ls (.ref r :: st) (Hp μ) :=
  E_get (ci := 10) (kf := 2) hd rfl inX11 (by decide) (by rw [ho]; exact flX11_57) (Hp_get hs) rfl h
theorem PX11_57 {r nn : Nat} {a0 a1 a2 a3 a4 a5 a6 a7 a8 a9 a10 a11 a12 a13 a14 : Nat} {x : Int} (hs : SK[r]? = some (20, nn, [a0, a1, a2, a3, a4, a5, a6, a7, a8, a9, a10, a11, a12, a13, a14])) (hd : decode (iC y) pc = .ok (.putfield 57, 3)) (h : E G y Z k n (pc + 3) ls st (Hp (up μ r 2 x))) (ho : (iY y).cls = RX11 := by rfl) : E G y Z k n pc ls (vi x :: .ref r :: st) (Hp μ) := by
  refine E_put (ci := 10) (kf := 2) (ty0 := tyX11) (ty := .int) hd rfl inX11 tyX11_ok nmX11 (by decide) (by rw [ho]; exact flX11_57) rfl (by decide +kernel) rfl rfl (Hp_get hs) (by simp) ?_
  rw [← Hp_set hs up_ne] at h
  simpa [cell, up] using h
theorem flX11_67 : Cond.fieldLink RX11 67 (TX11 5).1 (TX11 5).2.1 (TX11 5).2.2.1 ∈ lw_ok := lw_in (List.mem_of_getElem? (i := 770) (by decide +kernel)) rfl
theorem GX11_67 {r nn : Nat} {a0 a1 a2 a3 a4 a5 a6 a7 a8 a9 a10 a11 a12 a13 a14 : Nat} (hs : SK[r]? = some (20, nn, [a0, a1, a2, a3, a4, a5, a6, a7, a8, a9, a10, a11, a12, a13, a14])) (hd : decode (iC y) pc = .ok (.getfield 67, 3)) (h : E G y Z k n (pc + 3) ls (vi (μ r 5) :: st) (Hp μ)) (ho : (iY y).cls = RX11 := by rfl) : E G y Z k n pc ls (.ref r :: st) (Hp μ) :=
  E_get (ci := 10) (kf := 5) hd rfl inX11 (by decide) (by rw [ho]; exact flX11_67) (Hp_get hs) rfl h
theorem PX11_67 {r nn : Nat} {a0 a1 a2 a3 a4 a5 a6 a7 a8 a9 a10 a11 a12 a13 a14 : Nat} {x : Int} (hs : SK[r]? = some (20, nn, [a0, a1, a2, a3, a4, a5, a6, a7, a8, a9, a10, a11, a12, a13, a14])) (hd : decode (iC y) pc = .ok (.putfield 67, 3)) (h : E G y Z k n (pc + 3) ls st (Hp (up μ r 5 x))) (ho : (iY y).cls = RX11 := by rfl) : E G y Z k n pc ls (vi x :: .ref r :: st) (Hp μ) := by
  refine E_put (ci := 10) (kf := 5) (ty0 := tyX11) (ty := .int) hd rfl inX11 tyX11_ok nmX11 (by decide) (by rw [ho]; exact flX11_67) rfl (by decide +kernel) rfl rfl (Hp_get hs) (by simp) ?_
  rw [← Hp_set hs up_ne] at h
  simpa [cell, up] using h
theorem flX11_70 : Cond.fieldLink RX11 70 (TX11 6).1 (TX11 6).2.1 (TX11 6).2.2.1 ∈ lw_ok := lw_in (List.mem_of_getElem? (i := 771) (by decide +kernel)) rfl
theorem GX11_70 {r nn : Nat} {a0 a1 a2 a3 a4 a5 a6 a7 a8 a9 a10 a11 a12 a13 a14 : Nat} (hs : SK[r]? = some (20, nn, [a0, a1, a2, a3, a4, a5, a6, a7, a8, a9, a10, a11, a12, a13, a14])) (hd : decode (iC y) pc = .ok (.getfield 70, 3)) (h : E G y Z k n (pc + 3) ls (vi (μ r 6) :: st) (Hp μ)) (ho : (iY y).cls = RX11 := by rfl) : E G y Z k n pc ls (.ref r :: st) (Hp μ) :=
  E_get (ci := 10) (kf := 6) hd rfl inX11 (by decide) (by rw [ho]; exact flX11_70) (Hp_get hs) rfl h
theorem PX11_70 {r nn : Nat} {a0 a1 a2 a3 a4 a5 a6 a7 a8 a9 a10 a11 a12 a13 a14 : Nat} {x : Int} (hs : SK[r]? = some (20, nn, [a0, a1, a2, a3, a4, a5, a6, a7, a8, a9, a10, a11, a12, a13, a14])) (hd : decode (iC y) pc = .ok (.putfield 70, 3)) (h : E G y Z k n (pc + 3) ls st (Hp (up μ r 6 x))) (ho : (iY y).cls = RX11 := by rfl) : E G y Z k n pc ls (vi x :: .ref r :: st) (Hp μ) := by
  refine E_put (ci := 10) (kf := 6) (ty0 := tyX11) (ty := .int) hd rfl inX11 tyX11_ok nmX11 (by decide) (by rw [ho]; exact flX11_70) rfl (by decide +kernel) rfl rfl (Hp_get hs) (by simp) ?_
  rw [← Hp_set hs up_ne] at h
  simpa [cell, up] using h
theorem flX11_73 : Cond.fieldLink RX11 73 (TX11 7).1 (TX11 7).2.1 (TX11 7).2.2.1 ∈ lw_ok := lw_in (List.mem_of_getElem? (i := 772) (by decide +kernel)) rfl
theorem GX11_73 {r nn : Nat} {a0 a1 a2 a3 a4 a5 a6 a7 a8 a9 a10 a11 a12 a13 a14 : Nat} (hs : SK[r]? = some (20, nn, [a0, a1, a2, a3, a4, a5, a6, a7, a8, a9, a10, a11, a12, a13, a14])) (hd : decode (iC y) pc = .ok (.getfield 73, 3)) (h : E G y Z k n (pc + 3) ls (vi (μ r 7) :: st) (Hp μ)) (ho : (iY y).cls = RX11 := by rfl) : E G y Z k n pc ls (.ref r :: st) (Hp μ) :=
  E_get (ci := 10) (kf := 7) hd rfl inX11 (by decide) (by rw [ho]; exact flX11_73) (Hp_get hs) rfl h
theorem PX11_73 {r nn : Nat} {a0 a1 a2 a3 a4 a5 a6 a7 a8 a9 a10 a11 a12 a13 a14 : Nat} {x : Int} (hs : SK[r]? = some (20, nn, [a0, a1, a2, a3, a4, a5, a6, a7, a8, a9, a10, a11, a12, a13, a14])) (hd : decode (iC y) pc = .ok (.putfield 73, 3)) (h : E G y Z k n (pc + 3) ls st (Hp (up μ r 7 x))) (ho : (iY y).cls = RX11 := by rfl) : E G y Z k n pc ls (vi x :: .ref r :: st) (Hp μ) := by
  refine E_put (ci := 10) (kf := 7) (ty0 := tyX11) (ty := .int) hd rfl inX11 tyX11_ok nmX11 (by decide) (by rw [ho]; exact flX11_73) rfl (by decide +kernel) rfl rfl (Hp_get hs) (by simp) ?_
  rw [← Hp_set hs up_ne] at h
  simpa [cell, up] using h
theorem flX11_76 : Cond.fieldLink RX11 76 (TX11 8).1 (TX11 8).2.1 (TX11 8).2.2.1 ∈ lw_ok := lw_in (List.mem_of_getElem? (i := 773) (by decide +kernel)) rfl
theorem GX11_76 {r nn : Nat} {a0 a1 a2 a3 a4 a5 a6 a7 a8 a9 a10 a11 a12 a13 a14 : Nat} (hs : SK[r]? = some (20, nn, [a0, a1, a2, a3, a4, a5, a6, a7, a8, a9, a10, a11, a12, a13, a14])) (hd : decode (iC y) pc = .ok (.getfield 76, 3)) (h : E G y Z k n (pc + 3) ls (vi (μ r 8) :: st) (Hp μ)) (ho : (iY y).cls = RX11 := by rfl) : E G y Z k n pc ls (.ref r :: st) (Hp μ) :=
  E_get (ci := 10) (kf := 8) hd rfl inX11 (by decide) (by rw [ho]; exact flX11_76) (Hp_get hs) rfl h
theorem PX11_76 {r nn : Nat} {a0 a1 a2 a3 a4 a5 a6 a7 a8 a9 a10 a11 a12 a13 a14 : Nat} {x : Int} (hs : SK[r]? = some (20, nn, [a0, a1, a2, a3, a4, a5, a6, a7, a8, a9, a10, a11, a12, a13, a14])) (hd : decode (iC y) pc = .ok (.putfield 76, 3)) (h : E G y Z k n (pc + 3) ls st (Hp (up μ r 8 x))) (ho : (iY y).cls = RX11 := by rfl) : E G y Z k n pc ls (vi x :: .ref r :: st) (Hp μ) := by
  refine E_put (ci := 10) (kf := 8) (ty0 := tyX11) (ty := .int) hd rfl inX11 tyX11_ok nmX11 (by decide) (by rw [ho]; exact flX11_76) rfl (by decide +kernel) rfl rfl (Hp_get hs) (by simp) ?_
  rw [← Hp_set hs up_ne] at h
  simpa [cell, up] using h
theorem flX11_110 : Cond.fieldLink RX11 110 (TX11 12).1 (TX11 12).2.1 (TX11 12).2.2.1 ∈ lw_ok := lw_in (List.mem_of_getElem? (i := 777) (by decide +kernel)) rfl
theorem GX11_110 {r nn : Nat} {a0 a1 a2 a3 a4 a5 a6 a7 a8 a9 a10 a11 a12 a13 a14 : Nat} (hs : SK[r]? = some (20, nn, [a0, a1, a2, a3, a4, a5, a6, a7, a8, a9, a10, a11, a12, a13, a14])) (hd : decode (iC y) pc = .ok (.getfield 110, 3)) (h : E G y Z k n (pc + 3) ls (vi (μ r 12) :: st) (Hp μ)) (ho : (iY y).cls = RX11 := by rfl) : E G y Z k n pc ls (.ref r :: st) (Hp μ) :=
  E_get (ci := 10) (kf := 12) hd rfl inX11 (by decide) (by rw [ho]; exact flX11_110) (Hp_get hs) rfl h
theorem PX11_110 {r nn : Nat} {a0 a1 a2 a3 a4 a5 a6 a7 a8 a9 a10 a11 a12 a13 a14 : Nat} {x : Int} (hs : SK[r]? = some (20, nn, [a0, a1, a2, a3, a4, a5, a6, a7, a8, a9, a10, a11, a12, a13, a14])) (hd : decode (iC y) pc = .ok (.putfield 110, 3)) (h : E G y Z k n (pc + 3) ls st (Hp (up μ r 12 x))) (ho : (iY y).cls = RX11 := by rfl) : E G y Z k n pc ls (vi x :: .ref r :: st) (Hp μ) := by
  refine E_put (ci := 10) (kf := 12) (ty0 := tyX11) (ty := .int) hd rfl inX11 tyX11_ok nmX11 (by decide) (by rw [ho]; exact flX11_110) rfl (by decide +kernel) rfl rfl (Hp_get hs) (by simp) ?_
  rw [← Hp_set hs up_ne] at h
  simpa [cell, up] using h
theorem flX11_113 : Cond.fieldLink RX11 113 (TX11 13).1 (TX11 13).2.1 (TX11 13).2.2.1 ∈ lw_ok := lw_in (List.mem_of_getElem? (i := 778) (by decide +kernel)) rfl
theorem GX11_113 {r nn : Nat} {a0 a1 a2 a3 a4 a5 a6 a7 a8 a9 a10 a11 a12 a13 a14 : Nat} (hs : SK[r]? = some (20, nn, [a0, a1, a2, a3, a4, a5, a6, a7, a8, a9, a10, a11, a12, a13, a14])) (hd : decode (iC y) pc = .ok (.getfield 113, 3)) (h : E G y Z k n (pc + 3) ls (vi (μ r 13) :: st) (Hp μ)) (ho : (iY y).cls = RX11 := by rfl) : E G y Z k n pc ls (.ref r :: st) (Hp μ) :=
  E_get (ci := 10) (kf := 13) hd rfl inX11 (by decide) (by rw [ho]; exact flX11_113) (Hp_get hs) rfl h
theorem PX11_113 {r nn : Nat} {a0 a1 a2 a3 a4 a5 a6 a7 a8 a9 a10 a11 a12 a13 a14 : Nat} {x : Int} (hs : SK[r]? = some (20, nn, [a0, a1, a2, a3, a4, a5, a6, a7, a8, a9, a10, a11, a12, a13, a14])) (hd : decode (iC y) pc = .ok (.putfield 113, 3)) (h : E G y Z k n (pc + 3) ls st (Hp (up μ r 13 x))) (ho : (iY y).cls = RX11 := by rfl) : E G y Z k n pc ls (vi x :: .ref r :: st) (Hp μ) := by
  refine E_put (ci := 10) (kf := 13) (ty0 := tyX11) (ty := .int) hd rfl inX11 tyX11_ok nmX11 (by decide) (by rw [ho]; exact flX11_113) rfl (by decide +kernel) rfl rfl (Hp_get hs) (by simp) ?_
  rw [← Hp_set hs up_ne] at h
  simpa [cell, up] using h
theorem flX11_116 : Cond.fieldLink RX11 116 (TX11 14).1 (TX11 14).2.1 (TX11 14).2.2.1 ∈ lw_ok := lw_in (List.mem_of_getElem? (i := 779) (by decide +kernel)) rfl
theorem GX11_116 {r nn : Nat} {a0 a1 a2 a3 a4 a5 a6 a7 a8 a9 a10 a11 a12 a13 a14 : Nat} (hs : SK[r]? = some (20, nn, [a0, a1, a2, a3, a4, a5, a6, a7, a8, a9, a10, a11, a12, a13, a14])) (hd : decode (iC y) pc = .ok (.getfield 116, 3)) (h : E G y Z k n (pc + 3) ls (vi (μ r 14) :: st) (Hp μ)) (ho : (iY y).cls = RX11 := by rfl) : E G y Z k n pc ls (.ref r :: st) (Hp μ) :=
  E_get (ci := 10) (kf := 14) hd rfl inX11 (by decide) (by rw [ho]; exact flX11_116) (Hp_get hs) rfl h
theorem PX11_116 {r nn : Nat} {a0 a1 a2 a3 a4 a5 a6 a7 a8 a9 a10 a11 a12 a13 a14 : Nat} {x : Int} (hs : SK[r]? = some (20, nn, [a0, a1, a2, a3, a4, a5, a6, a7, a8, a9, a10, a11, a12, a13, a14])) (hd : decode (iC y) pc = .ok (.putfield 116, 3)) (h : E G y Z k n (pc + 3) ls st (Hp (up μ r 14 x))) (ho : (iY y).cls = RX11 := by rfl) : E G y Z k n pc ls (vi x :: .ref r :: st) (Hp μ) := by
  refine E_put (ci := 10) (kf := 14) (ty0 := tyX11) (ty := .int) hd rfl inX11 tyX11_ok nmX11 (by decide) (by rw [ho]; exact flX11_116) rfl (by decide +kernel) rfl rfl (Hp_get hs) (by simp) ?_
  rw [← Hp_set hs up_ne] at h
  simpa [cell, up] using h
theorem flX11_119 : Cond.fieldLink RX11 119 (TX11 16).1 (TX11 16).2.1 (TX11 16).2.2.1 ∈ lw_ok := lw_in (List.mem_of_getElem? (i := 781) (by decide +kernel)) rfl
theorem GX11_119 {r nn : Nat} {a0 a1 a2 a3 a4 a5 a6 a7 a8 a9 a10 a11 a12 a13 a14 : Nat} (hs : SK[r]? = some (20, nn, [a0, a1, a2, a3, a4, a5, a6, a7, a8, a9, a10, a11, a12, a13, a14])) (hd : decode (iC y) pc = .ok (.getfield 119, 3)) (h : E G y Z k n (pc + 3) ls (vi (μ r 16) :: st) (Hp μ)) (ho : (iY y).cls = RX11 := by rfl) : E G y Z k n pc ls (.ref r :: st) (Hp μ) :=
  E_get (ci := 10) (kf := 16) hd rfl inX11 (by decide) (by rw [ho]; exact flX11_119) (Hp_get hs) rfl h
theorem PX11_119 {r nn : Nat} {a0 a1 a2 a3 a4 a5 a6 a7 a8 a9 a10 a11 a12 a13 a14 : Nat} {x : Int} (hs : SK[r]? = some (20, nn, [a0, a1, a2, a3, a4, a5, a6, a7, a8, a9, a10, a11, a12, a13, a14])) (hd : decode (iC y) pc = .ok (.putfield 119, 3)) (h : E G y Z k n (pc + 3) ls st (Hp (up μ r 16 x))) (ho : (iY y).cls = RX11 := by rfl) : E G y Z k n pc ls (vi x :: .ref r :: st) (Hp μ) := by
  refine E_put (ci := 10) (kf := 16) (ty0 := tyX11) (ty := .int) hd rfl inX11 tyX11_ok nmX11 (by decide) (by rw [ho]; exact flX11_119) rfl (by decide +kernel) rfl rfl (Hp_get hs) (by simp) ?_
  rw [← Hp_set hs up_ne] at h
  simpa [cell, up] using h
theorem flX11_122 : Cond.fieldLink RX11 122 (TX11 15).1 (TX11 15).2.1 (TX11 15).2.2.1 ∈ lw_ok := lw_in (List.mem_of_getElem? (i := 780) (by decide +kernel)) rfl
theorem GX11_122 {r nn : Nat} {a0 a1 a2 a3 a4 a5 a6 a7 a8 a9 a10 a11 a12 a13 a14 : Nat} (hs : SK[r]? = some (20, nn, [a0, a1, a2, a3, a4, a5, a6, a7, a8, a9, a10, a11, a12, a13, a14])) (hd : decode (iC y) pc = .ok (.getfield 122, 3)) (h : E G y Z k n (pc + 3) ls (vi (μ r 15) :: st) (Hp μ)) (ho : (iY y).cls = RX11 := by rfl) : E G y Z k n pc ls (.ref r :: st) (Hp μ) :=
  E_get (ci := 10) (kf := 15) hd rfl inX11 (by decide) (by rw [ho]; exact flX11_122) (Hp_get hs) rfl h
theorem PX11_122 {r nn : Nat} {a0 a1 a2 a3 a4 a5 a6 a7 a8 a9 a10 a11 a12 a13 a14 : Nat} {x : Int} (hs : SK[r]? = some (20, nn, [a0, a1, a2, a3, a4, a5, a6, a7, a8, a9, a10, a11, a12, a13, a14])) (hd : decode (iC y) pc = .ok (.putfield 122, 3)) (h : E G y Z k n (pc + 3) ls st (Hp (up μ r 15 x))) (ho : (iY y).cls = RX11 := by rfl) : E G y Z k n pc ls (vi x :: .ref r :: st) (Hp μ) := by
  refine E_put (ci := 10) (kf := 15) (ty0 := tyX11) (ty := .int) hd rfl inX11 tyX11_ok nmX11 (by decide) (by rw [ho]; exact flX11_122) rfl (by decide +kernel) rfl rfl (Hp_get hs) (by simp) ?_
  rw [← Hp_set hs up_ne] at h
  simpa [cell, up] using h
theorem flX11_129 : Cond.fieldLink RX11 129 (TX11 17).1 (TX11 17).2.1 (TX11 17).2.2.1 ∈ lw_ok := lw_in (List.mem_of_getElem? (i := 782) (by decide +kernel)) rfl
theorem GX11_129 {r nn : Nat} {a0 a1 a2 a3 a4 a5 a6 a7 a8 a9 a10 a11 a12 a13 a14 : Nat} (hs : SK[r]? = some (20, nn, [a0, a1, a2, a3, a4, a5, a6, a7, a8, a9, a10, a11, a12, a13, a14])) (hd : decode (iC y) pc = .ok (.getfield 129, 3)) (h : E G y Z k n (pc + 3) ls (vi (μ r 17) :: st) (Hp μ)) (ho : (iY y).cls = RX11 := by rfl) : E G y Z k n pc ls (.ref r :: st) (Hp μ) :=
  E_get (ci := 10) (kf := 17) hd rfl inX11 (by decide) (by rw [ho]; exact flX11_129) (Hp_get hs) rfl h
theorem PX11_129 {r nn : Nat} {a0 a1 a2 a3 a4 a5 a6 a7 a8 a9 a10 a11 a12 a13 a14 : Nat} {x : Int} (hs : SK[r]? = some (20, nn, [a0, a1, a2, a3, a4, a5, a6, a7, a8, a9, a10, a11, a12, a13, a14])) (hd : decode (iC y) pc = .ok (.putfield 129, 3)) (h : E G y Z k n (pc + 3) ls st (Hp (up μ r 17 x))) (ho : (iY y).cls = RX11 := by rfl) : E G y Z k n pc ls (vi x :: .ref r :: st) (Hp μ) := by
  refine E_put (ci := 10) (kf := 17) (ty0 := tyX11) (ty := .int) hd rfl inX11 tyX11_ok nmX11 (by decide) (by rw [ho]; exact flX11_129) rfl (by decide +kernel) rfl rfl (Hp_get hs) (by simp) ?_
  rw [← Hp_set hs up_ne] at h
  simpa [cell, up] using h
theorem flX11_183 : Cond.fieldLink RX11 183 (TX11 18).1 (TX11 18).2.1 (TX11 18).2.2.1 ∈ lw_ok := lw_in (List.mem_of_getElem? (i := 783) (by decide +kernel)) rfl
theorem GX11_183 {r nn : Nat} {a0 a1 a2 a3 a4 a5 a6 a7 a8 a9 a10 a11 a12 a13 a14 : Nat} (hs : SK[r]? = some (20, nn, [a0, a1, a2, a3, a4, a5, a6, a7, a8, a9, a10, a11, a12, a13, a14])) (hd : decode (iC y) pc = .ok (.getfield 183, 3)) (h : E G y Z k n (pc + 3) ls (vl (μ r 18) :: st) (Hp μ)) (ho : (iY y).cls = RX11 := by rfl) : E G y Z k n pc ls (.ref r :: st) (Hp μ) :=
  E_get (ci := 10) (kf := 18) hd rfl inX11 (by decide) (by rw [ho]; exact flX11_183) (Hp_get hs) rfl h
theorem PX11_183 {r nn : Nat} {a0 a1 a2 a3 a4 a5 a6 a7 a8 a9 a10 a11 a12 a13 a14 : Nat} {x : Int} (hs : SK[r]? = some (20, nn, [a0, a1, a2, a3, a4, a5, a6, a7, a8, a9, a10, a11, a12, a13, a14])) (hd : decode (iC y) pc = .ok (.putfield 183, 3)) (h : E G y Z k n (pc + 3) ls st (Hp (up μ r 18 x))) (ho : (iY y).cls = RX11 := by rfl) : E G y Z k n pc ls (vl x :: .ref r :: st) (Hp μ) := by
  refine E_put (ci := 10) (kf := 18) (ty0 := tyX11) (ty := .long) hd rfl inX11 tyX11_ok nmX11 (by decide) (by rw [ho]; exact flX11_183) rfl (by decide +kernel) rfl rfl (Hp_get hs) (by simp) ?_
  rw [← Hp_set hs up_ne] at h
  simpa [cell, up] using h
theorem flX11_187 : Cond.fieldLink RX11 187 (TX11 19).1 (TX11 19).2.1 (TX11 19).2.2.1 ∈ lw_ok := lw_in (List.mem_of_getElem? (i := 784) (by decide +kernel)) rfl
theorem GX11_187 {r nn : Nat} {a0 a1 a2 a3 a4 a5 a6 a7 a8 a9 a10 a11 a12 a13 a14 : Nat} (hs : SK[r]? = some (20, nn, [a0, a1, a2, a3, a4, a5, a6, a7, a8, a9, a10, a11, a12, a13, a14])) (hd : decode (iC y) pc = .ok (.getfield 187, 3)) (h : E G y Z k n (pc + 3) ls (vl (μ r 19) :: st) (Hp μ)) (ho : (iY y).cls = RX11 := by rfl) : E G y Z k n pc ls (.ref r :: st) (Hp μ) :=
  E_get (ci := 10) (kf := 19) hd rfl inX11 (by decide) (by rw [ho]; exact flX11_187) (Hp_get hs) rfl h
theorem PX11_187 {r nn : Nat} {a0 a1 a2 a3 a4 a5 a6 a7 a8 a9 a10 a11 a12 a13 a14 : Nat} {x : Int} (hs : SK[r]? = some (20, nn, [a0, a1, a2, a3, a4, a5, a6, a7, a8, a9, a10, a11, a12, a13, a14])) (hd : decode (iC y) pc = .ok (.putfield 187, 3)) (h : E G y Z k n (pc + 3) ls st (Hp (up μ r 19 x))) (ho : (iY y).cls = RX11 := by rfl) : E G y Z k n pc ls (vl x :: .ref r :: st) (Hp μ) := by
  refine E_put (ci := 10) (kf := 19) (ty0 := tyX11) (ty := .long) hd rfl inX11 tyX11_ok nmX11 (by decide) (by rw [ho]; exact flX11_187) rfl (by decide +kernel) rfl rfl (Hp_get hs) (by simp) ?_
  rw [← Hp_set hs up_ne] at h
  simpa [cell, up] using h
theorem flX11_214 : Cond.fieldLink RX11 214 (TX11 21).1 (TX11 21).2.1 (TX11 21).2.2.1 ∈ lw_ok := lw_in (List.mem_of_getElem? (i := 786) (by decide +kernel)) rfl
theorem GX11_214 {r nn : Nat} {a0 a1 a2 a3 a4 a5 a6 a7 a8 a9 a10 a11 a12 a13 a14 : Nat} (hs : SK[r]? = some (20, nn, [a0, a1, a2, a3, a4, a5, a6, a7, a8, a9, a10, a11, a12, a13, a14])) (hd : decode (iC y) pc = .ok (.getfield 214, 3)) (h : E G y Z k n (pc + 3) ls (vi (μ r 21) :: st) (Hp μ)) (ho : (iY y).cls = RX11 := by rfl) : E G y Z k n pc ls (.ref r :: st) (Hp μ) :=
  E_get (ci := 10) (kf := 21) hd rfl inX11 (by decide) (by rw [ho]; exact flX11_214) (Hp_get hs) rfl h
theorem PX11_214 {r nn : Nat} {a0 a1 a2 a3 a4 a5 a6 a7 a8 a9 a10 a11 a12 a13 a14 : Nat} {x : Int} (hs : SK[r]? = some (20, nn, [a0, a1, a2, a3, a4, a5, a6, a7, a8, a9, a10, a11, a12, a13, a14])) (hd : decode (iC y) pc = .ok (.putfield 214, 3)) (h : E G y Z k n (pc + 3) ls st (Hp (up μ r 21 x))) (ho : (iY y).cls = RX11 := by rfl) : E G y Z k n pc ls (vi x :: .ref r :: st) (Hp μ) := by
  refine E_put (ci := 10) (kf := 21) (ty0 := tyX11) (ty := .int) hd rfl inX11 tyX11_ok nmX11 (by decide) (by rw [ho]; exact flX11_214) rfl (by decide +kernel) rfl rfl (Hp_get hs) (by simp) ?_
  rw [← Hp_set hs up_ne] at h
  simpa [cell, up] using h
theorem flX11_289 : Cond.fieldLink RX11 289 (TX11 26).1 (TX11 26).2.1 (TX11 26).2.2.1 ∈ lw_ok := lw_in (List.mem_of_getElem? (i := 791) (by decide +kernel)) rfl
theorem GX11_289 {r nn : Nat} {a0 a1 a2 a3 a4 a5 a6 a7 a8 a9 a10 a11 a12 a13 a14 : Nat} (hs : SK[r]? = some (20, nn, [a0, a1, a2, a3, a4, a5, a6, a7, a8, a9, a10, a11, a12, a13, a14])) (hd : decode (iC y) pc = .ok (.getfield 289, 3)) (h : E G y Z k n (pc + 3) ls (vl (μ r 26) :: st) (Hp μ)) (ho : (iY y).cls = RX11 := by rfl) : E G y Z k n pc ls (.ref r :: st) (Hp μ) :=
  E_get (ci := 10) (kf := 26) hd rfl inX11 (by decide) (by rw [ho]; exact flX11_289) (Hp_get hs) rfl h
theorem PX11_289 {r nn : Nat} {a0 a1 a2 a3 a4 a5 a6 a7 a8 a9 a10 a11 a12 a13 a14 : Nat} {x : Int} (hs : SK[r]? = some (20, nn, [a0, a1, a2, a3, a4, a5, a6, a7, a8, a9, a10, a11, a12, a13, a14])) (hd : decode (iC y) pc = .ok (.putfield 289, 3)) (h : E G y Z k n (pc + 3) ls st (Hp (up μ r 26 x))) (ho : (iY y).cls = RX11 := by rfl) : E G y Z k n pc ls (vl x :: .ref r :: st) (Hp μ) := by
  refine E_put (ci := 10) (kf := 26) (ty0 := tyX11) (ty := .long) hd rfl inX11 tyX11_ok nmX11 (by decide) (by rw [ho]; exact flX11_289) rfl (by decide +kernel) rfl rfl (Hp_get hs) (by simp) ?_
  rw [← Hp_set hs up_ne] at h
  simpa [cell, up] using h
theorem flX11_292 : Cond.fieldLink RX11 292 (TX11 27).1 (TX11 27).2.1 (TX11 27).2.2.1 ∈ lw_ok := lw_in (List.mem_of_getElem? (i := 792) (by decide +kernel)) rfl
theorem GX11_292 {r nn : Nat} {a0 a1 a2 a3 a4 a5 a6 a7 a8 a9 a10 a11 a12 a13 a14 : Nat} (hs : SK[r]? = some (20, nn, [a0, a1, a2, a3, a4, a5, a6, a7, a8, a9, a10, a11, a12, a13, a14])) (hd : decode (iC y) pc = .ok (.getfield 292, 3)) (h : E G y Z k n (pc + 3) ls (vl (μ r 27) :: st) (Hp μ)) (ho : (iY y).cls = RX11 := by rfl) : E G y Z k n pc ls (.ref r :: st) (Hp μ) :=
  E_get (ci := 10) (kf := 27) hd rfl inX11 (by decide) (by rw [ho]; exact flX11_292) (Hp_get hs) rfl h
theorem PX11_292 {r nn : Nat} {a0 a1 a2 a3 a4 a5 a6 a7 a8 a9 a10 a11 a12 a13 a14 : Nat} {x : Int} (hs : SK[r]? = some (20, nn, [a0, a1, a2, a3, a4, a5, a6, a7, a8, a9, a10, a11, a12, a13, a14])) (hd : decode (iC y) pc = .ok (.putfield 292, 3)) (h : E G y Z k n (pc + 3) ls st (Hp (up μ r 27 x))) (ho : (iY y).cls = RX11 := by rfl) : E G y Z k n pc ls (vl x :: .ref r :: st) (Hp μ) := by
  refine E_put (ci := 10) (kf := 27) (ty0 := tyX11) (ty := .long) hd rfl inX11 tyX11_ok nmX11 (by decide) (by rw [ho]; exact flX11_292) rfl (by decide +kernel) rfl rfl (Hp_get hs) (by simp) ?_
  rw [← Hp_set hs up_ne] at h
  simpa [cell, up] using h
theorem flX11_306 : Cond.fieldLink RX11 306 (TX11 28).1 (TX11 28).2.1 (TX11 28).2.2.1 ∈ lw_ok := lw_in (List.mem_of_getElem? (i := 793) (by decide +kernel)) rfl
theorem GX11_306 {r nn : Nat} {a0 a1 a2 a3 a4 a5 a6 a7 a8 a9 a10 a11 a12 a13 a14 : Nat} (hs : SK[r]? = some (20, nn, [a0, a1, a2, a3, a4, a5, a6, a7, a8, a9, a10, a11, a12, a13, a14])) (hd : decode (iC y) pc = .ok (.getfield 306, 3)) (h : E G y Z k n (pc + 3) ls (vi (μ r 28) :: st) (Hp μ)) (ho : (iY y).cls = RX11 := by rfl) : E G y Z k n pc ls (.ref r :: st) (Hp μ) :=
  E_get (ci := 10) (kf := 28) hd rfl inX11 (by decide) (by rw [ho]; exact flX11_306) (Hp_get hs) rfl h
theorem PX11_306 {r nn : Nat} {a0 a1 a2 a3 a4 a5 a6 a7 a8 a9 a10 a11 a12 a13 a14 : Nat} {x : Int} (hs : SK[r]? = some (20, nn, [a0, a1, a2, a3, a4, a5, a6, a7, a8, a9, a10, a11, a12, a13, a14])) (hd : decode (iC y) pc = .ok (.putfield 306, 3)) (h : E G y Z k n (pc + 3) ls st (Hp (up μ r 28 x))) (ho : (iY y).cls = RX11 := by rfl) : E G y Z k n pc ls (vi x :: .ref r :: st) (Hp μ) := by
  refine E_put (ci := 10) (kf := 28) (ty0 := tyX11) (ty := .int) hd rfl inX11 tyX11_ok nmX11 (by decide) (by rw [ho]; exact flX11_306) rfl (by decide +kernel) rfl rfl (Hp_get hs) (by simp) ?_
  rw [← Hp_set hs up_ne] at h
  simpa [cell, up] using h
end HPR
