/-! THE SHAPE OF ALL CELLS, THE POOLS' FIELDS, THE METHODS. -/
def tabs (k : Nat) : List Cond := match k with
  | 1 => tables_1_1
  | 2 => tables_1_2
  | 3 => tables_1_3
  | 4 => tables_1_4
  | 5 => tables_1_5
  | 6 => tables_1_6
  | 7 => tables_1_7
  | 8 => tables_1_8
  | _ => []
theorem tabs_in {w : Cond} (k : Nat) (h : w ∈ tabs k) : w ∈ lw_tbl := by
  have key : w ∈ tables_1 := by
    unfold tables_1
    simp only [List.mem_append]
    unfold tabs at h
    split at h <;> first | (exact absurd h List.not_mem_nil) | simp [h]
  exact List.mem_append_right _ key
theorem mem_T {w : Cond} (k i : Nat) (h : (tabs k)[i]? = some w) (hg : goodWord w = true) : w ∈ TS := List.mem_filter.mpr ⟨tabs_in k (List.mem_of_getElem? h), hg⟩
def SH : List Sh := [(0, 11, [11, 25, 40, 45, 51, 69, 98, 113, 119, 145, 0]), (0, 5, [12, 13, 14, 15, 16, 0, 17, 18, 19, 0, 20, 21, 22, 23, 24, 0]), (1, 12, []), (1, 12, []), (1, 12, []), (1, 12, []), (1, 12, []), (1, 30, []), (1, 30, []), (1, 30, []), (1, 150, []), (1, 150, []), (1, 150, []), (1, 150, []), (1, 150, []), (0, 3, [26, 27, 28, 29, 30, 31, 32, 33, 34, 35, 0, 36, 37, 38, 39, 0]), (1, 16, []), (1, 16, []), (1, 16, []), (1, 16, []), (3, 16, []), (1, 16, []), (1, 16, []), (1, 16, []), (1, 16, []), (1, 16, []), (1, 20, []), (1, 20, []), (1, 20, []), (1, 20, []), (0, 8, [41, 0, 42, 43, 44, 0]), (1, 600, []), (1, 600, []), (1, 600, []), (1, 600, []), (0, 4, [40, 0, 2, 0, 0]), (0, 6, [1001, 0, 1002, 1003, 0, 1004]), (1, 640, []), (1, 20, []), (1, 20, []), (1, 64, []), (0, 2, [11, 25, 52, 53, 0, 0, 0, 0]), (5, 3, []), (1, 10, []), (0, 6, [1001, 0, 1002, 1003, 0, 1004]), (1, 640, []), (1, 20, []), (1, 20, []), (1, 64, []), (0, 6, [1001, 0, 1002, 1003, 0, 1004]), (1, 640, []), (1, 20, []), (1, 20, []), (1, 64, []), (0, 6, [1001, 0, 1002, 1003, 0, 1004]), (1, 640, []), (1, 20, []), (1, 20, []), (1, 64, []), (0, 0, [11, 25, 51, 70, 71, 72, 73, 74, 75, 0, 92, 93, 94, 95, 96, 97, 0]), (1, 16, []), (1, 16, []), (1, 16, []), (1, 16, []), (1, 16, []), (6, 16, [66]), (1, 12, []), (1, 12, []), (1, 12, []), (1, 12, []), (1, 12, []), (1, 12, []), (1, 12, []), (1, 12, []), (1, 12, []), (1, 12, []), (1, 12, []), (1, 12, []), (1, 12, []), (1, 12, []), (1, 12, []), (1, 12, []), (2, 16, []), (2, 16, []), (1, 16, []), (1, 16, []), (1, 32, []), (1, 32, []), (0, 7, [99, 100, 0, 110, 111, 112, 0, 0, 0, 0]), (1, 9, []), (6, 9, [91]), (1, 9, []), (1, 9, []), (1, 9, []), (1, 9, []), (1, 9, []), (1, 9, []), (1, 9, []), (1, 9, []), (1, 9, []), (1, 4608, []), (1, 14, []), (1, 14, []), (0, 10, [25, 114, 115, 116, 0, 117, 118]), (1, 16, []), (1, 16, []), (1, 9, []), (1, 512, []), (1, 2048, []), (0, 1, [25, 120, 141, 142, 143, 144, 0]), (6, 20, [111]), (1, 20, []), (1, 20, []), (1, 20, []), (1, 20, []), (1, 20, []), (1, 20, []), (1, 20, []), (1, 20, []), (1, 20, []), (1, 20, []), (1, 20, []), (1, 20, []), (1, 20, []), (1, 20, []), (1, 20, []), (1, 20, []), (1, 20, []), (1, 20, []), (1, 20, []), (1, 20, []), (1, 4, []), (3, 20, []), (3, 20, []), (3, 20, []), (0, 9, [146, 150, 0, 0, 0, 0]), (6, 3, [137]), (1, 9, []), (1, 9, []), (1, 9, []), (1, 3, []), (0, 12, [0, 0, 0, 0, 0, 0, 0, 0, 0, 0, 152, 153, 154, 155, 156, 157, 158, 159, 160, 161, 162, 163, 164, 165, 166, 167, 168, 169, 170, 171, 172, 173, 174, 175, 176, 177, 178, 179, 180, 181, 182, 183, 184, 185, 186, 187, 188, 189, 0, 0, 0, 0, 0, 0, 0, 0, 0, 0, 0, 0, 190, 0, 0, 0, 0, 191, 192, 193, 194, 195, 196, 197, 198, 199, 200, 0, 201, 202, 203, 204, 205, 206, 0, 207, 208, 0, 209, 210, 211, 212, 213, 214, 215, 216, 217, 0, 218, 219]), (1, 12, []), (1, 12, []), (1, 12, []), (1, 12, []), (1, 12, []), (1, 30, []), (1, 30, []), (1, 30, []), (1, 150, []), (1, 150, []), (1, 150, []), (1, 150, []), (1, 150, []), (1, 16, []), (1, 16, []), (1, 16, []), (1, 16, []), (1, 16, []), (1, 16, []), (1, 16, []), (1, 16, []), (3, 16, []), (3, 16, []), (1, 20, []), (1, 20, []), (1, 20, []), (1, 20, []), (1, 3, []), (1, 60, []), (1, 63, []), (1, 60, []), (1, 3660, []), (1, 20, []), (1, 21, []), (1, 20, []), (1, 1220, []), (1, 600, []), (1, 620, []), (1, 12, []), (1, 16, []), (1, 16, []), (1, 16, []), (1, 16, []), (1, 16, []), (1, 192, []), (1, 16, []), (1, 256, []), (1, 256, []), (1, 256, []), (2, 16, []), (1, 9, []), (1, 81, []), (1, 9, []), (1, 5120, []), (1, 9, []), (1, 14, []), (1, 14, []), (1, 9, []), (1, 9, []), (1, 400, []), (1, 20, []), (3, 20, []), (3, 20, []), (3, 20, []), (3, 20, []), (3, 20, []), (1, 27, []), (1, 3, [])]
theorem sh_0 : SH[0]? = some (0, 11, [11, 25, 40, 45, 51, 69, 98, 113, 119, 145, 0]) := rfl
theorem sh_1 : SH[1]? = some (0, 5, [12, 13, 14, 15, 16, 0, 17, 18, 19, 0, 20, 21, 22, 23, 24, 0]) := rfl
theorem sh_2 : SH[2]? = some (1, 12, []) := rfl
theorem sh_3 : SH[3]? = some (1, 12, []) := rfl
theorem sh_4 : SH[4]? = some (1, 12, []) := rfl
theorem sh_5 : SH[5]? = some (1, 12, []) := rfl
theorem sh_6 : SH[6]? = some (1, 12, []) := rfl
theorem sh_7 : SH[7]? = some (1, 30, []) := rfl
theorem sh_8 : SH[8]? = some (1, 30, []) := rfl
theorem sh_9 : SH[9]? = some (1, 30, []) := rfl
theorem sh_10 : SH[10]? = some (1, 150, []) := rfl
theorem sh_11 : SH[11]? = some (1, 150, []) := rfl
theorem sh_12 : SH[12]? = some (1, 150, []) := rfl
theorem sh_13 : SH[13]? = some (1, 150, []) := rfl
theorem sh_14 : SH[14]? = some (1, 150, []) := rfl
theorem sh_15 : SH[15]? = some (0, 3, [26, 27, 28, 29, 30, 31, 32, 33, 34, 35, 0, 36, 37, 38, 39, 0]) := rfl
theorem sh_16 : SH[16]? = some (1, 16, []) := rfl
theorem sh_17 : SH[17]? = some (1, 16, []) := rfl
theorem sh_18 : SH[18]? = some (1, 16, []) := rfl
theorem sh_19 : SH[19]? = some (1, 16, []) := rfl
theorem sh_20 : SH[20]? = some (3, 16, []) := rfl
theorem sh_21 : SH[21]? = some (1, 16, []) := rfl
theorem sh_22 : SH[22]? = some (1, 16, []) := rfl
theorem sh_23 : SH[23]? = some (1, 16, []) := rfl
theorem sh_24 : SH[24]? = some (1, 16, []) := rfl
theorem sh_25 : SH[25]? = some (1, 16, []) := rfl
theorem sh_26 : SH[26]? = some (1, 20, []) := rfl
theorem sh_27 : SH[27]? = some (1, 20, []) := rfl
theorem sh_28 : SH[28]? = some (1, 20, []) := rfl
theorem sh_29 : SH[29]? = some (1, 20, []) := rfl
theorem sh_30 : SH[30]? = some (0, 8, [41, 0, 42, 43, 44, 0]) := rfl
theorem sh_31 : SH[31]? = some (1, 600, []) := rfl
theorem sh_32 : SH[32]? = some (1, 600, []) := rfl
theorem sh_33 : SH[33]? = some (1, 600, []) := rfl
theorem sh_34 : SH[34]? = some (1, 600, []) := rfl
theorem sh_35 : SH[35]? = some (0, 4, [40, 0, 2, 0, 0]) := rfl
theorem sh_36 : SH[36]? = some (0, 6, [1001, 0, 1002, 1003, 0, 1004]) := rfl
theorem sh_37 : SH[37]? = some (1, 640, []) := rfl
theorem sh_38 : SH[38]? = some (1, 20, []) := rfl
theorem sh_39 : SH[39]? = some (1, 20, []) := rfl
theorem sh_40 : SH[40]? = some (1, 64, []) := rfl
theorem sh_41 : SH[41]? = some (0, 2, [11, 25, 52, 53, 0, 0, 0, 0]) := rfl
theorem sh_42 : SH[42]? = some (5, 3, []) := rfl
theorem sh_43 : SH[43]? = some (1, 10, []) := rfl
theorem sh_44 : SH[44]? = some (0, 6, [1001, 0, 1002, 1003, 0, 1004]) := rfl
theorem sh_45 : SH[45]? = some (1, 640, []) := rfl
theorem sh_46 : SH[46]? = some (1, 20, []) := rfl
theorem sh_47 : SH[47]? = some (1, 20, []) := rfl
theorem sh_48 : SH[48]? = some (1, 64, []) := rfl
theorem sh_49 : SH[49]? = some (0, 6, [1001, 0, 1002, 1003, 0, 1004]) := rfl
theorem sh_50 : SH[50]? = some (1, 640, []) := rfl
theorem sh_51 : SH[51]? = some (1, 20, []) := rfl
theorem sh_52 : SH[52]? = some (1, 20, []) := rfl
theorem sh_53 : SH[53]? = some (1, 64, []) := rfl
theorem sh_54 : SH[54]? = some (0, 6, [1001, 0, 1002, 1003, 0, 1004]) := rfl
theorem sh_55 : SH[55]? = some (1, 640, []) := rfl
theorem sh_56 : SH[56]? = some (1, 20, []) := rfl
theorem sh_57 : SH[57]? = some (1, 20, []) := rfl
theorem sh_58 : SH[58]? = some (1, 64, []) := rfl
theorem sh_59 : SH[59]? = some (0, 0, [11, 25, 51, 70, 71, 72, 73, 74, 75, 0, 92, 93, 94, 95, 96, 97, 0]) := rfl
theorem sh_60 : SH[60]? = some (1, 16, []) := rfl
theorem sh_61 : SH[61]? = some (1, 16, []) := rfl
theorem sh_62 : SH[62]? = some (1, 16, []) := rfl
theorem sh_63 : SH[63]? = some (1, 16, []) := rfl
theorem sh_64 : SH[64]? = some (1, 16, []) := rfl
theorem sh_65 : SH[65]? = some (6, 16, [66]) := rfl
theorem sh_66 : SH[66]? = some (1, 12, []) := rfl
theorem sh_67 : SH[67]? = some (1, 12, []) := rfl
theorem sh_68 : SH[68]? = some (1, 12, []) := rfl
theorem sh_69 : SH[69]? = some (1, 12, []) := rfl
theorem sh_70 : SH[70]? = some (1, 12, []) := rfl
theorem sh_71 : SH[71]? = some (1, 12, []) := rfl
theorem sh_72 : SH[72]? = some (1, 12, []) := rfl
theorem sh_73 : SH[73]? = some (1, 12, []) := rfl
theorem sh_74 : SH[74]? = some (1, 12, []) := rfl
theorem sh_75 : SH[75]? = some (1, 12, []) := rfl
theorem sh_76 : SH[76]? = some (1, 12, []) := rfl
theorem sh_77 : SH[77]? = some (1, 12, []) := rfl
theorem sh_78 : SH[78]? = some (1, 12, []) := rfl
theorem sh_79 : SH[79]? = some (1, 12, []) := rfl
theorem sh_80 : SH[80]? = some (1, 12, []) := rfl
theorem sh_81 : SH[81]? = some (1, 12, []) := rfl
theorem sh_82 : SH[82]? = some (2, 16, []) := rfl
theorem sh_83 : SH[83]? = some (2, 16, []) := rfl
theorem sh_84 : SH[84]? = some (1, 16, []) := rfl
theorem sh_85 : SH[85]? = some (1, 16, []) := rfl
theorem sh_86 : SH[86]? = some (1, 32, []) := rfl
theorem sh_87 : SH[87]? = some (1, 32, []) := rfl
theorem sh_88 : SH[88]? = some (0, 7, [99, 100, 0, 110, 111, 112, 0, 0, 0, 0]) := rfl
theorem sh_89 : SH[89]? = some (1, 9, []) := rfl
theorem sh_90 : SH[90]? = some (6, 9, [91]) := rfl
theorem sh_91 : SH[91]? = some (1, 9, []) := rfl
theorem sh_92 : SH[92]? = some (1, 9, []) := rfl
theorem sh_93 : SH[93]? = some (1, 9, []) := rfl
theorem sh_94 : SH[94]? = some (1, 9, []) := rfl
theorem sh_95 : SH[95]? = some (1, 9, []) := rfl
theorem sh_96 : SH[96]? = some (1, 9, []) := rfl
theorem sh_97 : SH[97]? = some (1, 9, []) := rfl
theorem sh_98 : SH[98]? = some (1, 9, []) := rfl
theorem sh_99 : SH[99]? = some (1, 9, []) := rfl
theorem sh_100 : SH[100]? = some (1, 4608, []) := rfl
theorem sh_101 : SH[101]? = some (1, 14, []) := rfl
theorem sh_102 : SH[102]? = some (1, 14, []) := rfl
theorem sh_103 : SH[103]? = some (0, 10, [25, 114, 115, 116, 0, 117, 118]) := rfl
theorem sh_104 : SH[104]? = some (1, 16, []) := rfl
theorem sh_105 : SH[105]? = some (1, 16, []) := rfl
theorem sh_106 : SH[106]? = some (1, 9, []) := rfl
theorem sh_107 : SH[107]? = some (1, 512, []) := rfl
theorem sh_108 : SH[108]? = some (1, 2048, []) := rfl
theorem sh_109 : SH[109]? = some (0, 1, [25, 120, 141, 142, 143, 144, 0]) := rfl
theorem sh_110 : SH[110]? = some (6, 20, [111]) := rfl
theorem sh_111 : SH[111]? = some (1, 20, []) := rfl
theorem sh_112 : SH[112]? = some (1, 20, []) := rfl
theorem sh_113 : SH[113]? = some (1, 20, []) := rfl
theorem sh_114 : SH[114]? = some (1, 20, []) := rfl
theorem sh_115 : SH[115]? = some (1, 20, []) := rfl
theorem sh_116 : SH[116]? = some (1, 20, []) := rfl
theorem sh_117 : SH[117]? = some (1, 20, []) := rfl
theorem sh_118 : SH[118]? = some (1, 20, []) := rfl
theorem sh_119 : SH[119]? = some (1, 20, []) := rfl
theorem sh_120 : SH[120]? = some (1, 20, []) := rfl
theorem sh_121 : SH[121]? = some (1, 20, []) := rfl
theorem sh_122 : SH[122]? = some (1, 20, []) := rfl
theorem sh_123 : SH[123]? = some (1, 20, []) := rfl
theorem sh_124 : SH[124]? = some (1, 20, []) := rfl
theorem sh_125 : SH[125]? = some (1, 20, []) := rfl
theorem sh_126 : SH[126]? = some (1, 20, []) := rfl
theorem sh_127 : SH[127]? = some (1, 20, []) := rfl
theorem sh_128 : SH[128]? = some (1, 20, []) := rfl
theorem sh_129 : SH[129]? = some (1, 20, []) := rfl
theorem sh_130 : SH[130]? = some (1, 20, []) := rfl
theorem sh_131 : SH[131]? = some (1, 4, []) := rfl
theorem sh_132 : SH[132]? = some (3, 20, []) := rfl
theorem sh_133 : SH[133]? = some (3, 20, []) := rfl
theorem sh_134 : SH[134]? = some (3, 20, []) := rfl
theorem sh_135 : SH[135]? = some (0, 9, [146, 150, 0, 0, 0, 0]) := rfl
theorem sh_136 : SH[136]? = some (6, 3, [137]) := rfl
theorem sh_137 : SH[137]? = some (1, 9, []) := rfl
theorem sh_138 : SH[138]? = some (1, 9, []) := rfl
theorem sh_139 : SH[139]? = some (1, 9, []) := rfl
theorem sh_140 : SH[140]? = some (1, 3, []) := rfl
theorem sh_141 : SH[141]? = some (0, 12, [0, 0, 0, 0, 0, 0, 0, 0, 0, 0, 152, 153, 154, 155, 156, 157, 158, 159, 160, 161, 162, 163, 164, 165, 166, 167, 168, 169, 170, 171, 172, 173, 174, 175, 176, 177, 178, 179, 180, 181, 182, 183, 184, 185, 186, 187, 188, 189, 0, 0, 0, 0, 0, 0, 0, 0, 0, 0, 0, 0, 190, 0, 0, 0, 0, 191, 192, 193, 194, 195, 196, 197, 198, 199, 200, 0, 201, 202, 203, 204, 205, 206, 0, 207, 208, 0, 209, 210, 211, 212, 213, 214, 215, 216, 217, 0, 218, 219]) := rfl
theorem sh_142 : SH[142]? = some (1, 12, []) := rfl
theorem sh_143 : SH[143]? = some (1, 12, []) := rfl
theorem sh_144 : SH[144]? = some (1, 12, []) := rfl
theorem sh_145 : SH[145]? = some (1, 12, []) := rfl
theorem sh_146 : SH[146]? = some (1, 12, []) := rfl
theorem sh_147 : SH[147]? = some (1, 30, []) := rfl
theorem sh_148 : SH[148]? = some (1, 30, []) := rfl
theorem sh_149 : SH[149]? = some (1, 30, []) := rfl
theorem sh_150 : SH[150]? = some (1, 150, []) := rfl
theorem sh_151 : SH[151]? = some (1, 150, []) := rfl
theorem sh_152 : SH[152]? = some (1, 150, []) := rfl
theorem sh_153 : SH[153]? = some (1, 150, []) := rfl
theorem sh_154 : SH[154]? = some (1, 150, []) := rfl
theorem sh_155 : SH[155]? = some (1, 16, []) := rfl
theorem sh_156 : SH[156]? = some (1, 16, []) := rfl
theorem sh_157 : SH[157]? = some (1, 16, []) := rfl
theorem sh_158 : SH[158]? = some (1, 16, []) := rfl
theorem sh_159 : SH[159]? = some (1, 16, []) := rfl
theorem sh_160 : SH[160]? = some (1, 16, []) := rfl
theorem sh_161 : SH[161]? = some (1, 16, []) := rfl
theorem sh_162 : SH[162]? = some (1, 16, []) := rfl
theorem sh_163 : SH[163]? = some (3, 16, []) := rfl
theorem sh_164 : SH[164]? = some (3, 16, []) := rfl
theorem sh_165 : SH[165]? = some (1, 20, []) := rfl
theorem sh_166 : SH[166]? = some (1, 20, []) := rfl
theorem sh_167 : SH[167]? = some (1, 20, []) := rfl
theorem sh_168 : SH[168]? = some (1, 20, []) := rfl
theorem sh_169 : SH[169]? = some (1, 3, []) := rfl
theorem sh_170 : SH[170]? = some (1, 60, []) := rfl
theorem sh_171 : SH[171]? = some (1, 63, []) := rfl
theorem sh_172 : SH[172]? = some (1, 60, []) := rfl
theorem sh_173 : SH[173]? = some (1, 3660, []) := rfl
theorem sh_174 : SH[174]? = some (1, 20, []) := rfl
theorem sh_175 : SH[175]? = some (1, 21, []) := rfl
theorem sh_176 : SH[176]? = some (1, 20, []) := rfl
theorem sh_177 : SH[177]? = some (1, 1220, []) := rfl
theorem sh_178 : SH[178]? = some (1, 600, []) := rfl
theorem sh_179 : SH[179]? = some (1, 620, []) := rfl
theorem sh_180 : SH[180]? = some (1, 12, []) := rfl
theorem sh_181 : SH[181]? = some (1, 16, []) := rfl
theorem sh_182 : SH[182]? = some (1, 16, []) := rfl
theorem sh_183 : SH[183]? = some (1, 16, []) := rfl
theorem sh_184 : SH[184]? = some (1, 16, []) := rfl
theorem sh_185 : SH[185]? = some (1, 16, []) := rfl
theorem sh_186 : SH[186]? = some (1, 192, []) := rfl
theorem sh_187 : SH[187]? = some (1, 16, []) := rfl
theorem sh_188 : SH[188]? = some (1, 256, []) := rfl
theorem sh_189 : SH[189]? = some (1, 256, []) := rfl
theorem sh_190 : SH[190]? = some (1, 256, []) := rfl
theorem sh_191 : SH[191]? = some (2, 16, []) := rfl
theorem sh_192 : SH[192]? = some (1, 9, []) := rfl
theorem sh_193 : SH[193]? = some (1, 81, []) := rfl
theorem sh_194 : SH[194]? = some (1, 9, []) := rfl
theorem sh_195 : SH[195]? = some (1, 5120, []) := rfl
theorem sh_196 : SH[196]? = some (1, 9, []) := rfl
theorem sh_197 : SH[197]? = some (1, 14, []) := rfl
theorem sh_198 : SH[198]? = some (1, 14, []) := rfl
theorem sh_199 : SH[199]? = some (1, 9, []) := rfl
theorem sh_200 : SH[200]? = some (1, 9, []) := rfl
theorem sh_201 : SH[201]? = some (1, 400, []) := rfl
theorem sh_202 : SH[202]? = some (1, 20, []) := rfl
theorem sh_203 : SH[203]? = some (3, 20, []) := rfl
theorem sh_204 : SH[204]? = some (3, 20, []) := rfl
theorem sh_205 : SH[205]? = some (3, 20, []) := rfl
theorem sh_206 : SH[206]? = some (3, 20, []) := rfl
theorem sh_207 : SH[207]? = some (3, 20, []) := rfl
theorem sh_208 : SH[208]? = some (1, 27, []) := rfl
theorem sh_209 : SH[209]? = some (1, 3, []) := rfl
theorem SH_len : SH.length = 210 := by decide +kernel
theorem ws_X0 : ∀ w ∈ u_ws RX0 TX0 17, w ∈ TS := fun w hw => by
  have e : u_ws RX0 TX0 17 = [(2, 89), (2, 91), (2, 93), (2, 95), (2, 97), (2, 99), (2, 101), (2, 103), (2, 105), (2, 107), (2, 109), (2, 111), (2, 113), (2, 115), (2, 117), (2, 119), (2, 121)].filterMap (fun q : Nat × Nat => (tabs q.1)[q.2]?) := by decide +kernel
  have hg : (u_ws RX0 TX0 17).all goodWord = true := by decide +kernel
  have h1 := List.all_eq_true.mp hg w hw
  rw [e] at hw
  obtain ⟨i, -, hi⟩ := List.mem_filterMap.mp hw
  exact mem_T i.1 i.2 hi h1
theorem cf_X0 : CF 0 (RX0, TX0, 17) tyX0 := ⟨rfl, ws_X0, tyX0_ok, nmX0⟩
theorem ws_X1 : ∀ w ∈ u_ws RX1 TX1 7, w ∈ TS := fun w hw => by
  have e : u_ws RX1 TX1 7 = [(2, 212), (2, 214), (2, 216), (2, 218), (2, 220), (2, 222), (2, 224)].filterMap (fun q : Nat × Nat => (tabs q.1)[q.2]?) := by decide +kernel
  have hg : (u_ws RX1 TX1 7).all goodWord = true := by decide +kernel
  have h1 := List.all_eq_true.mp hg w hw
  rw [e] at hw
  obtain ⟨i, -, hi⟩ := List.mem_filterMap.mp hw
  exact mem_T i.1 i.2 hi h1
theorem cf_X1 : CF 1 (RX1, TX1, 7) tyX1 := ⟨rfl, ws_X1, tyX1_ok, nmX1⟩
theorem ws_X2 : ∀ w ∈ u_ws RX2 TX2 8, w ∈ TS := fun w hw => by
  have e : u_ws RX2 TX2 8 = [(2, 45), (2, 47), (2, 49), (2, 51), (2, 53), (2, 55), (2, 57), (2, 59)].filterMap (fun q : Nat × Nat => (tabs q.1)[q.2]?) := by decide +kernel
  have hg : (u_ws RX2 TX2 8).all goodWord = true := by decide +kernel
  have h1 := List.all_eq_true.mp hg w hw
  rw [e] at hw
  obtain ⟨i, -, hi⟩ := List.mem_filterMap.mp hw
  exact mem_T i.1 i.2 hi h1
theorem cf_X2 : CF 2 (RX2, TX2, 8) tyX2 := ⟨rfl, ws_X2, tyX2_ok, nmX2⟩
theorem ws_X3 : ∀ w ∈ u_ws RX3 TX3 16, w ∈ TS := fun w hw => by
  have e : u_ws RX3 TX3 16 = [(1, 145), (1, 147), (1, 149), (1, 151), (1, 153), (1, 155), (1, 157), (1, 159), (1, 161), (1, 163), (1, 165), (1, 167), (1, 169), (1, 171), (1, 173), (1, 175)].filterMap (fun q : Nat × Nat => (tabs q.1)[q.2]?) := by decide +kernel
  have hg : (u_ws RX3 TX3 16).all goodWord = true := by decide +kernel
  have h1 := List.all_eq_true.mp hg w hw
  rw [e] at hw
  obtain ⟨i, -, hi⟩ := List.mem_filterMap.mp hw
  exact mem_T i.1 i.2 hi h1
theorem cf_X3 : CF 3 (RX3, TX3, 16) tyX3 := ⟨rfl, ws_X3, tyX3_ok, nmX3⟩
theorem ws_X4 : ∀ w ∈ u_ws RX4 TX4 5, w ∈ TS := fun w hw => by
  have e : u_ws RX4 TX4 5 = [(2, 11), (2, 13), (2, 15), (2, 17), (2, 19)].filterMap (fun q : Nat × Nat => (tabs q.1)[q.2]?) := by decide +kernel
  have hg : (u_ws RX4 TX4 5).all goodWord = true := by decide +kernel
  have h1 := List.all_eq_true.mp hg w hw
  rw [e] at hw
  obtain ⟨i, -, hi⟩ := List.mem_filterMap.mp hw
  exact mem_T i.1 i.2 hi h1
theorem cf_X4 : CF 4 (RX4, TX4, 5) tyX4 := ⟨rfl, ws_X4, tyX4_ok, nmX4⟩
theorem ws_X5 : ∀ w ∈ u_ws RX5 TX5 16, w ∈ TS := fun w hw => by
  have e : u_ws RX5 TX5 16 = [(1, 65), (1, 67), (1, 69), (1, 71), (1, 73), (1, 75), (1, 77), (1, 79), (1, 81), (1, 83), (1, 85), (1, 87), (1, 89), (1, 91), (1, 93), (1, 95)].filterMap (fun q : Nat × Nat => (tabs q.1)[q.2]?) := by decide +kernel
  have hg : (u_ws RX5 TX5 16).all goodWord = true := by decide +kernel
  have h1 := List.all_eq_true.mp hg w hw
  rw [e] at hw
  obtain ⟨i, -, hi⟩ := List.mem_filterMap.mp hw
  exact mem_T i.1 i.2 hi h1
theorem cf_X5 : CF 5 (RX5, TX5, 16) tyX5 := ⟨rfl, ws_X5, tyX5_ok, nmX5⟩
theorem ws_X6 : ∀ w ∈ u_ws RX6 TX6 6, w ∈ TS := fun w hw => by
  have e : u_ws RX6 TX6 6 = [(1, 230), (1, 232), (1, 234), (1, 236), (1, 238), (2, 0)].filterMap (fun q : Nat × Nat => (tabs q.1)[q.2]?) := by decide +kernel
  have hg : (u_ws RX6 TX6 6).all goodWord = true := by decide +kernel
  have h1 := List.all_eq_true.mp hg w hw
  rw [e] at hw
  obtain ⟨i, -, hi⟩ := List.mem_filterMap.mp hw
  exact mem_T i.1 i.2 hi h1
theorem cf_X6 : CF 6 (RX6, TX6, 6) tyX6 := ⟨rfl, ws_X6, tyX6_ok, nmX6⟩
theorem ws_X7 : ∀ w ∈ u_ws RX7 TX7 10, w ∈ TS := fun w hw => by
  have e : u_ws RX7 TX7 10 = [(2, 145), (2, 147), (2, 149), (2, 151), (2, 153), (2, 155), (2, 157), (2, 159), (2, 161), (2, 163)].filterMap (fun q : Nat × Nat => (tabs q.1)[q.2]?) := by decide +kernel
  have hg : (u_ws RX7 TX7 10).all goodWord = true := by decide +kernel
  have h1 := List.all_eq_true.mp hg w hw
  rw [e] at hw
  obtain ⟨i, -, hi⟩ := List.mem_filterMap.mp hw
  exact mem_T i.1 i.2 hi h1
theorem cf_X7 : CF 7 (RX7, TX7, 10) tyX7 := ⟨rfl, ws_X7, tyX7_ok, nmX7⟩
theorem ws_X8 : ∀ w ∈ u_ws RX8 TX8 6, w ∈ TS := fun w hw => by
  have e : u_ws RX8 TX8 6 = [(1, 196), (1, 198), (1, 200), (1, 202), (1, 204), (1, 206)].filterMap (fun q : Nat × Nat => (tabs q.1)[q.2]?) := by decide +kernel
  have hg : (u_ws RX8 TX8 6).all goodWord = true := by decide +kernel
  have h1 := List.all_eq_true.mp hg w hw
  rw [e] at hw
  obtain ⟨i, -, hi⟩ := List.mem_filterMap.mp hw
  exact mem_T i.1 i.2 hi h1
theorem cf_X8 : CF 8 (RX8, TX8, 6) tyX8 := ⟨rfl, ws_X8, tyX8_ok, nmX8⟩
theorem ws_X9 : ∀ w ∈ u_ws RX9 TX9 6, w ∈ TS := fun w hw => by
  have e : u_ws RX9 TX9 6 = [(3, 3), (3, 5), (3, 7), (3, 9), (3, 11), (3, 13)].filterMap (fun q : Nat × Nat => (tabs q.1)[q.2]?) := by decide +kernel
  have hg : (u_ws RX9 TX9 6).all goodWord = true := by decide +kernel
  have h1 := List.all_eq_true.mp hg w hw
  rw [e] at hw
  obtain ⟨i, -, hi⟩ := List.mem_filterMap.mp hw
  exact mem_T i.1 i.2 hi h1
theorem cf_X9 : CF 9 (RX9, TX9, 6) tyX9 := ⟨rfl, ws_X9, tyX9_ok, nmX9⟩
theorem ws_X10 : ∀ w ∈ u_ws RX10 TX10 7, w ∈ TS := fun w hw => by
  have e : u_ws RX10 TX10 7 = [(2, 179), (2, 181), (2, 183), (2, 185), (2, 187), (2, 189), (2, 191)].filterMap (fun q : Nat × Nat => (tabs q.1)[q.2]?) := by decide +kernel
  have hg : (u_ws RX10 TX10 7).all goodWord = true := by decide +kernel
  have h1 := List.all_eq_true.mp hg w hw
  rw [e] at hw
  obtain ⟨i, -, hi⟩ := List.mem_filterMap.mp hw
  exact mem_T i.1 i.2 hi h1
theorem cf_X10 : CF 10 (RX10, TX10, 7) tyX10 := ⟨rfl, ws_X10, tyX10_ok, nmX10⟩
theorem ws_X11 : ∀ w ∈ u_ws RX11 TX11 11, w ∈ TS := fun w hw => by
  have e : u_ws RX11 TX11 11 = [(3, 27), (3, 29), (3, 31), (3, 33), (3, 35), (3, 37), (3, 39), (3, 41), (3, 43), (3, 45), (3, 47)].filterMap (fun q : Nat × Nat => (tabs q.1)[q.2]?) := by decide +kernel
  have hg : (u_ws RX11 TX11 11).all goodWord = true := by decide +kernel
  have h1 := List.all_eq_true.mp hg w hw
  rw [e] at hw
  obtain ⟨i, -, hi⟩ := List.mem_filterMap.mp hw
  exact mem_T i.1 i.2 hi h1
theorem cf_X11 : CF 11 (RX11, TX11, 11) tyX11 := ⟨rfl, ws_X11, tyX11_ok, nmX11⟩
theorem ws_X12 : ∀ w ∈ u_ws RX12 TX12 98, w ∈ TS := fun w hw => by
  have e : u_ws RX12 TX12 98 = [(6, 148), (6, 150), (6, 152), (6, 154), (6, 156), (6, 158), (6, 160), (6, 162), (6, 164), (6, 166), (6, 168), (6, 170), (6, 172), (6, 174), (6, 176), (6, 178), (6, 180), (6, 182), (6, 184), (6, 186), (6, 188), (6, 190), (6, 192), (6, 194), (6, 196), (6, 198), (6, 200), (6, 202), (6, 204), (6, 206), (6, 208), (6, 210), (6, 212), (6, 214), (6, 216), (6, 218), (6, 220), (6, 222), (6, 224), (6, 226), (6, 228), (6, 230), (6, 232), (6, 234), (6, 236), (6, 238), (7, 0), (7, 2), (7, 4), (7, 6), (7, 8), (7, 10), (7, 12), (7, 14), (7, 16), (7, 18), (7, 20), (7, 22), (7, 24), (7, 26), (7, 28), (7, 30), (7, 32), (7, 34), (7, 36), (7, 38), (7, 40), (7, 42), (7, 44), (7, 46), (7, 48), (7, 50), (7, 52), (7, 54), (7, 56), (7, 58), (7, 60), (7, 62), (7, 64), (7, 66), (7, 68), (7, 70), (7, 72), (7, 74), (7, 76), (7, 78), (7, 80), (7, 82), (7, 84), (7, 86), (7, 88), (7, 90), (7, 92), (7, 94), (7, 96), (7, 98), (7, 100), (7, 102)].filterMap (fun q : Nat × Nat => (tabs q.1)[q.2]?) := by decide +kernel
  have hg : (u_ws RX12 TX12 98).all goodWord = true := by decide +kernel
  have h1 := List.all_eq_true.mp hg w hw
  rw [e] at hw
  obtain ⟨i, -, hi⟩ := List.mem_filterMap.mp hw
  exact mem_T i.1 i.2 hi h1
theorem cf_X12 : CF 12 (RX12, TX12, 98) tyX12 := ⟨rfl, ws_X12, tyX12_ok, nmX12⟩
theorem ff_X11_10 : FF RX11 10 11 (RX11, TX11, 11) 0 := ⟨by decide, mem_T 3 16 rfl rfl⟩
theorem ff_X11_19 : FF RX11 19 11 (RX11, TX11, 11) 1 := ⟨by decide, mem_T 3 17 rfl rfl⟩
theorem ff_X11_26 : FF RX11 26 11 (RX11, TX11, 11) 2 := ⟨by decide, mem_T 3 18 rfl rfl⟩
theorem ff_X11_35 : FF RX11 35 11 (RX11, TX11, 11) 3 := ⟨by decide, mem_T 3 19 rfl rfl⟩
theorem ff_X11_44 : FF RX11 44 11 (RX11, TX11, 11) 4 := ⟨by decide, mem_T 3 20 rfl rfl⟩
theorem ff_X11_53 : FF RX11 53 11 (RX11, TX11, 11) 5 := ⟨by decide, mem_T 3 21 rfl rfl⟩
theorem ff_X11_60 : FF RX11 60 11 (RX11, TX11, 11) 6 := ⟨by decide, mem_T 3 22 rfl rfl⟩
theorem ff_X11_69 : FF RX11 69 11 (RX11, TX11, 11) 7 := ⟨by decide, mem_T 3 23 rfl rfl⟩
theorem ff_X11_76 : FF RX11 76 11 (RX11, TX11, 11) 8 := ⟨by decide, mem_T 3 24 rfl rfl⟩
theorem ff_X11_83 : FF RX11 83 11 (RX11, TX11, 11) 9 := ⟨by decide, mem_T 3 25 rfl rfl⟩
theorem ff_X11_87 : FF RX11 87 11 (RX11, TX11, 11) 10 := ⟨by decide, mem_T 3 26 rfl rfl⟩
theorem ff_X11_138 : FF RX11 138 3 (RX3, TX3, 16) 14 := ⟨by decide, mem_T 1 142 rfl rfl⟩
theorem ff_X11_142 : FF RX11 142 3 (RX3, TX3, 16) 8 := ⟨by decide, mem_T 1 128 rfl rfl⟩
theorem ff_X11_149 : FF RX11 149 5 (RX5, TX5, 16) 8 := ⟨by decide, mem_T 1 55 rfl rfl⟩
theorem ff_X11_152 : FF RX11 152 3 (RX3, TX3, 16) 9 := ⟨by decide, mem_T 1 131 rfl rfl⟩
theorem ff_X11_168 : FF RX11 168 4 (RX4, TX4, 5) 2 := ⟨by decide, mem_T 2 6 rfl rfl⟩
theorem ff_X11_179 : FF RX11 179 4 (RX4, TX4, 5) 3 := ⟨by decide, mem_T 2 8 rfl rfl⟩
theorem ff_X11_182 : FF RX11 182 4 (RX4, TX4, 5) 4 := ⟨by decide, mem_T 2 10 rfl rfl⟩
theorem ff_X11_195 : FF RX11 195 2 (RX2, TX2, 8) 4 := ⟨by decide, mem_T 2 36 rfl rfl⟩
theorem ff_X11_198 : FF RX11 198 2 (RX2, TX2, 8) 5 := ⟨by decide, mem_T 2 38 rfl rfl⟩
theorem ff_X11_201 : FF RX11 201 2 (RX2, TX2, 8) 6 := ⟨by decide, mem_T 2 41 rfl rfl⟩
theorem ff_X11_204 : FF RX11 204 2 (RX2, TX2, 8) 7 := ⟨by decide, mem_T 2 44 rfl rfl⟩
theorem ff_X11_223 : FF RX11 223 0 (RX0, TX0, 17) 8 := ⟨by decide, mem_T 2 79 rfl rfl⟩
theorem ff_X11_252 : FF RX11 252 7 (RX7, TX7, 10) 7 := ⟨by decide, mem_T 2 140 rfl rfl⟩
theorem ff_X11_255 : FF RX11 255 7 (RX7, TX7, 10) 8 := ⟨by decide, mem_T 2 142 rfl rfl⟩
theorem ff_X11_258 : FF RX11 258 7 (RX7, TX7, 10) 9 := ⟨by decide, mem_T 2 144 rfl rfl⟩
theorem ff_X11_274 : FF RX11 274 1 (RX1, TX1, 7) 4 := ⟨by decide, mem_T 2 207 rfl rfl⟩
theorem ff_X11_278 : FF RX11 278 1 (RX1, TX1, 7) 5 := ⟨by decide, mem_T 2 209 rfl rfl⟩
theorem ff_X11_281 : FF RX11 281 1 (RX1, TX1, 7) 3 := ⟨by decide, mem_T 2 205 rfl rfl⟩
theorem ff_X11_284 : FF RX11 284 1 (RX1, TX1, 7) 6 := ⟨by decide, mem_T 2 211 rfl rfl⟩
theorem ff_X11_296 : FF RX11 296 9 (RX9, TX9, 6) 3 := ⟨by decide, mem_T 2 238 rfl rfl⟩
theorem ff_X11_299 : FF RX11 299 9 (RX9, TX9, 6) 4 := ⟨by decide, mem_T 3 0 rfl rfl⟩
theorem ff_X11_302 : FF RX11 302 9 (RX9, TX9, 6) 5 := ⟨by decide, mem_T 3 2 rfl rfl⟩
theorem ff_X11_308 : FF RX11 308 5 (RX5, TX5, 16) 5 := ⟨by decide, mem_T 1 47 rfl rfl⟩
theorem ff_X11_311 : FF RX11 311 5 (RX5, TX5, 16) 9 := ⟨by decide, mem_T 1 57 rfl rfl⟩
theorem ff_X11_314 : FF RX11 314 5 (RX5, TX5, 16) 15 := ⟨by decide, mem_T 1 64 rfl rfl⟩
theorem ff_X11_317 : FF RX11 317 3 (RX3, TX3, 16) 10 := ⟨by decide, mem_T 1 135 rfl rfl⟩
theorem ff_X11_320 : FF RX11 320 3 (RX3, TX3, 16) 15 := ⟨by decide, mem_T 1 144 rfl rfl⟩
theorem ff_X11_323 : FF RX11 323 0 (RX0, TX0, 17) 9 := ⟨by decide, mem_T 2 81 rfl rfl⟩
theorem ff_X0_9 : FF RX0 9 0 (RX0, TX0, 17) 3 := ⟨by decide, mem_T 2 73 rfl rfl⟩
theorem ff_X0_15 : FF RX0 15 0 (RX0, TX0, 17) 4 := ⟨by decide, mem_T 2 74 rfl rfl⟩
theorem ff_X0_18 : FF RX0 18 0 (RX0, TX0, 17) 5 := ⟨by decide, mem_T 2 75 rfl rfl⟩
theorem ff_X0_21 : FF RX0 21 0 (RX0, TX0, 17) 6 := ⟨by decide, mem_T 2 76 rfl rfl⟩
theorem ff_X0_24 : FF RX0 24 0 (RX0, TX0, 17) 7 := ⟨by decide, mem_T 2 77 rfl rfl⟩
theorem ff_X0_29 : FF RX0 29 0 (RX0, TX0, 17) 8 := ⟨by decide, mem_T 2 78 rfl rfl⟩
theorem ff_X0_32 : FF RX0 32 0 (RX0, TX0, 17) 10 := ⟨by decide, mem_T 2 82 rfl rfl⟩
theorem ff_X0_36 : FF RX0 36 0 (RX0, TX0, 17) 11 := ⟨by decide, mem_T 2 83 rfl rfl⟩
theorem ff_X0_39 : FF RX0 39 0 (RX0, TX0, 17) 12 := ⟨by decide, mem_T 2 84 rfl rfl⟩
theorem ff_X0_42 : FF RX0 42 0 (RX0, TX0, 17) 13 := ⟨by decide, mem_T 2 85 rfl rfl⟩
theorem ff_X0_45 : FF RX0 45 0 (RX0, TX0, 17) 14 := ⟨by decide, mem_T 2 86 rfl rfl⟩
theorem ff_X0_48 : FF RX0 48 0 (RX0, TX0, 17) 15 := ⟨by decide, mem_T 2 87 rfl rfl⟩
theorem ff_X0_51 : FF RX0 51 0 (RX0, TX0, 17) 0 := ⟨by decide, mem_T 2 70 rfl rfl⟩
theorem ff_X0_55 : FF RX0 55 0 (RX0, TX0, 17) 1 := ⟨by decide, mem_T 2 71 rfl rfl⟩
theorem ff_X0_59 : FF RX0 59 0 (RX0, TX0, 17) 2 := ⟨by decide, mem_T 2 72 rfl rfl⟩
theorem ff_X0_67 : FF RX0 67 0 (RX0, TX0, 17) 9 := ⟨by decide, mem_T 2 80 rfl rfl⟩
theorem ff_X0_71 : FF RX0 71 3 (RX3, TX3, 16) 9 := ⟨by decide, mem_T 1 130 rfl rfl⟩
theorem ff_X0_95 : FF RX0 95 2 (RX2, TX2, 8) 6 := ⟨by decide, mem_T 2 39 rfl rfl⟩
theorem ff_X0_97 : FF RX0 97 2 (RX2, TX2, 8) 7 := ⟨by decide, mem_T 2 42 rfl rfl⟩
theorem ff_X0_99 : FF RX0 99 3 (RX3, TX3, 16) 0 := ⟨by decide, mem_T 1 107 rfl rfl⟩
theorem ff_X0_100 : FF RX0 100 3 (RX3, TX3, 16) 2 := ⟨by decide, mem_T 1 111 rfl rfl⟩
theorem ff_X0_103 : FF RX0 103 5 (RX5, TX5, 16) 6 := ⟨by decide, mem_T 1 49 rfl rfl⟩
theorem ff_X0_106 : FF RX0 106 5 (RX5, TX5, 16) 1 := ⟨by decide, mem_T 1 38 rfl rfl⟩
theorem ff_X0_107 : FF RX0 107 5 (RX5, TX5, 16) 2 := ⟨by decide, mem_T 1 41 rfl rfl⟩
theorem ff_X0_108 : FF RX0 108 0 (RX0, TX0, 17) 16 := ⟨by decide, mem_T 2 88 rfl rfl⟩
theorem ff_X0_111 : FF RX0 111 3 (RX3, TX3, 16) 10 := ⟨by decide, mem_T 1 134 rfl rfl⟩
theorem ff_X0_118 : FF RX0 118 3 (RX3, TX3, 16) 5 := ⟨by decide, mem_T 1 120 rfl rfl⟩
theorem ff_X0_149 : FF RX0 149 3 (RX3, TX3, 16) 8 := ⟨by decide, mem_T 1 127 rfl rfl⟩
theorem ff_X0_152 : FF RX0 152 3 (RX3, TX3, 16) 6 := ⟨by decide, mem_T 1 122 rfl rfl⟩
theorem ff_X0_155 : FF RX0 155 3 (RX3, TX3, 16) 7 := ⟨by decide, mem_T 1 124 rfl rfl⟩
theorem ff_X0_158 : FF RX0 158 3 (RX3, TX3, 16) 4 := ⟨by decide, mem_T 1 118 rfl rfl⟩
theorem ff_X0_162 : FF RX0 162 3 (RX3, TX3, 16) 3 := ⟨by decide, mem_T 1 115 rfl rfl⟩
theorem ff_X0_168 : FF RX0 168 3 (RX3, TX3, 16) 13 := ⟨by decide, mem_T 1 140 rfl rfl⟩
theorem ff_X0_174 : FF RX0 174 5 (RX5, TX5, 16) 7 := ⟨by decide, mem_T 1 53 rfl rfl⟩
theorem ff_X1_11 : FF RX1 11 1 (RX1, TX1, 7) 1 := ⟨by decide, mem_T 2 202 rfl rfl⟩
theorem ff_X1_16 : FF RX1 16 1 (RX1, TX1, 7) 2 := ⟨by decide, mem_T 2 203 rfl rfl⟩
theorem ff_X1_20 : FF RX1 20 1 (RX1, TX1, 7) 3 := ⟨by decide, mem_T 2 204 rfl rfl⟩
theorem ff_X1_24 : FF RX1 24 1 (RX1, TX1, 7) 4 := ⟨by decide, mem_T 2 206 rfl rfl⟩
theorem ff_X1_27 : FF RX1 27 1 (RX1, TX1, 7) 5 := ⟨by decide, mem_T 2 208 rfl rfl⟩
theorem ff_X1_30 : FF RX1 30 1 (RX1, TX1, 7) 0 := ⟨by decide, mem_T 2 201 rfl rfl⟩
theorem ff_X1_39 : FF RX1 39 1 (RX1, TX1, 7) 6 := ⟨by decide, mem_T 2 210 rfl rfl⟩
theorem ff_X1_67 : FF RX1 67 3 (RX3, TX3, 16) 4 := ⟨by decide, mem_T 1 117 rfl rfl⟩
theorem ff_X2_11 : FF RX2 11 2 (RX2, TX2, 8) 2 := ⟨by decide, mem_T 2 33 rfl rfl⟩
theorem ff_X2_17 : FF RX2 17 2 (RX2, TX2, 8) 3 := ⟨by decide, mem_T 2 34 rfl rfl⟩
theorem ff_X2_21 : FF RX2 21 2 (RX2, TX2, 8) 0 := ⟨by decide, mem_T 2 31 rfl rfl⟩
theorem ff_X2_25 : FF RX2 25 2 (RX2, TX2, 8) 1 := ⟨by decide, mem_T 2 32 rfl rfl⟩
theorem ff_X2_30 : FF RX2 30 6 (RX6, TX6, 6) 4 := ⟨by decide, mem_T 1 227 rfl rfl⟩
theorem ff_X2_38 : FF RX2 38 2 (RX2, TX2, 8) 4 := ⟨by decide, mem_T 2 35 rfl rfl⟩
theorem ff_X2_41 : FF RX2 41 2 (RX2, TX2, 8) 5 := ⟨by decide, mem_T 2 37 rfl rfl⟩
theorem ff_X2_44 : FF RX2 44 2 (RX2, TX2, 8) 6 := ⟨by decide, mem_T 2 40 rfl rfl⟩
theorem ff_X2_47 : FF RX2 47 2 (RX2, TX2, 8) 7 := ⟨by decide, mem_T 2 43 rfl rfl⟩
theorem ff_X2_61 : FF RX2 61 5 (RX5, TX5, 16) 6 := ⟨by decide, mem_T 1 50 rfl rfl⟩
theorem ff_X2_66 : FF RX2 66 3 (RX3, TX3, 16) 8 := ⟨by decide, mem_T 1 126 rfl rfl⟩
theorem ff_X2_71 : FF RX2 71 5 (RX5, TX5, 16) 0 := ⟨by decide, mem_T 1 36 rfl rfl⟩
theorem ff_X2_74 : FF RX2 74 5 (RX5, TX5, 16) 3 := ⟨by decide, mem_T 1 43 rfl rfl⟩
theorem ff_X2_77 : FF RX2 77 5 (RX5, TX5, 16) 1 := ⟨by decide, mem_T 1 39 rfl rfl⟩
theorem ff_X2_80 : FF RX2 80 5 (RX5, TX5, 16) 4 := ⟨by decide, mem_T 1 45 rfl rfl⟩
theorem ff_X2_83 : FF RX2 83 5 (RX5, TX5, 16) 7 := ⟨by decide, mem_T 1 52 rfl rfl⟩
theorem ff_X2_90 : FF RX2 90 3 (RX3, TX3, 16) 11 := ⟨by decide, mem_T 1 137 rfl rfl⟩
theorem ff_X2_93 : FF RX2 93 3 (RX3, TX3, 16) 1 := ⟨by decide, mem_T 1 109 rfl rfl⟩
theorem ff_X2_96 : FF RX2 96 3 (RX3, TX3, 16) 3 := ⟨by decide, mem_T 1 114 rfl rfl⟩
theorem ff_X2_99 : FF RX2 99 3 (RX3, TX3, 16) 2 := ⟨by decide, mem_T 1 112 rfl rfl⟩
theorem ff_X2_106 : FF RX2 106 6 (RX6, TX6, 6) 2 := ⟨by decide, mem_T 1 224 rfl rfl⟩
theorem ff_X3_9 : FF RX3 9 3 (RX3, TX3, 16) 0 := ⟨by decide, mem_T 1 105 rfl rfl⟩
theorem ff_X3_15 : FF RX3 15 3 (RX3, TX3, 16) 1 := ⟨by decide, mem_T 1 108 rfl rfl⟩
theorem ff_X3_18 : FF RX3 18 3 (RX3, TX3, 16) 2 := ⟨by decide, mem_T 1 110 rfl rfl⟩
theorem ff_X3_21 : FF RX3 21 3 (RX3, TX3, 16) 3 := ⟨by decide, mem_T 1 113 rfl rfl⟩
theorem ff_X3_24 : FF RX3 24 3 (RX3, TX3, 16) 4 := ⟨by decide, mem_T 1 116 rfl rfl⟩
theorem ff_X3_28 : FF RX3 28 3 (RX3, TX3, 16) 5 := ⟨by decide, mem_T 1 119 rfl rfl⟩
theorem ff_X3_31 : FF RX3 31 3 (RX3, TX3, 16) 6 := ⟨by decide, mem_T 1 121 rfl rfl⟩
theorem ff_X3_34 : FF RX3 34 3 (RX3, TX3, 16) 7 := ⟨by decide, mem_T 1 123 rfl rfl⟩
theorem ff_X3_37 : FF RX3 37 3 (RX3, TX3, 16) 8 := ⟨by decide, mem_T 1 125 rfl rfl⟩
theorem ff_X3_40 : FF RX3 40 3 (RX3, TX3, 16) 9 := ⟨by decide, mem_T 1 129 rfl rfl⟩
theorem ff_X3_43 : FF RX3 43 3 (RX3, TX3, 16) 11 := ⟨by decide, mem_T 1 136 rfl rfl⟩
theorem ff_X3_46 : FF RX3 46 3 (RX3, TX3, 16) 12 := ⟨by decide, mem_T 1 138 rfl rfl⟩
theorem ff_X3_49 : FF RX3 49 3 (RX3, TX3, 16) 13 := ⟨by decide, mem_T 1 139 rfl rfl⟩
theorem ff_X3_52 : FF RX3 52 3 (RX3, TX3, 16) 14 := ⟨by decide, mem_T 1 141 rfl rfl⟩
theorem ff_X3_63 : FF RX3 63 3 (RX3, TX3, 16) 10 := ⟨by decide, mem_T 1 132 rfl rfl⟩
theorem ff_X3_71 : FF RX3 71 3 (RX3, TX3, 16) 15 := ⟨by decide, mem_T 1 143 rfl rfl⟩
theorem ff_X4_9 : FF RX4 9 4 (RX4, TX4, 5) 0 := ⟨by decide, mem_T 2 3 rfl rfl⟩
theorem ff_X4_18 : FF RX4 18 4 (RX4, TX4, 5) 2 := ⟨by decide, mem_T 2 5 rfl rfl⟩
theorem ff_X4_22 : FF RX4 22 4 (RX4, TX4, 5) 3 := ⟨by decide, mem_T 2 7 rfl rfl⟩
theorem ff_X4_26 : FF RX4 26 4 (RX4, TX4, 5) 4 := ⟨by decide, mem_T 2 9 rfl rfl⟩
theorem ff_X4_37 : FF RX4 37 4 (RX4, TX4, 5) 1 := ⟨by decide, mem_T 2 4 rfl rfl⟩
theorem ff_X4_48 : FF RX4 48 8 (RX8, TX8, 6) 5 := ⟨by decide, mem_T 1 194 rfl rfl⟩
theorem ff_X4_51 : FF RX4 51 8 (RX8, TX8, 6) 2 := ⟨by decide, mem_T 1 189 rfl rfl⟩
theorem ff_X4_55 : FF RX4 55 8 (RX8, TX8, 6) 4 := ⟨by decide, mem_T 1 193 rfl rfl⟩
theorem ff_X4_58 : FF RX4 58 8 (RX8, TX8, 6) 1 := ⟨by decide, mem_T 1 187 rfl rfl⟩
theorem ff_X4_69 : FF RX4 69 6 (RX6, TX6, 6) 4 := ⟨by decide, mem_T 1 228 rfl rfl⟩
theorem ff_X4_95 : FF RX4 95 8 (RX8, TX8, 6) 3 := ⟨by decide, mem_T 1 191 rfl rfl⟩
theorem ff_X5_9 : FF RX5 9 5 (RX5, TX5, 16) 0 := ⟨by decide, mem_T 1 35 rfl rfl⟩
theorem ff_X5_15 : FF RX5 15 5 (RX5, TX5, 16) 1 := ⟨by decide, mem_T 1 37 rfl rfl⟩
theorem ff_X5_18 : FF RX5 18 5 (RX5, TX5, 16) 2 := ⟨by decide, mem_T 1 40 rfl rfl⟩
theorem ff_X5_21 : FF RX5 21 5 (RX5, TX5, 16) 3 := ⟨by decide, mem_T 1 42 rfl rfl⟩
theorem ff_X5_24 : FF RX5 24 5 (RX5, TX5, 16) 4 := ⟨by decide, mem_T 1 44 rfl rfl⟩
theorem ff_X5_27 : FF RX5 27 5 (RX5, TX5, 16) 6 := ⟨by decide, mem_T 1 48 rfl rfl⟩
theorem ff_X5_30 : FF RX5 30 5 (RX5, TX5, 16) 7 := ⟨by decide, mem_T 1 51 rfl rfl⟩
theorem ff_X5_33 : FF RX5 33 5 (RX5, TX5, 16) 8 := ⟨by decide, mem_T 1 54 rfl rfl⟩
theorem ff_X5_36 : FF RX5 36 5 (RX5, TX5, 16) 10 := ⟨by decide, mem_T 1 58 rfl rfl⟩
theorem ff_X5_39 : FF RX5 39 5 (RX5, TX5, 16) 11 := ⟨by decide, mem_T 1 59 rfl rfl⟩
theorem ff_X5_42 : FF RX5 42 5 (RX5, TX5, 16) 12 := ⟨by decide, mem_T 1 60 rfl rfl⟩
theorem ff_X5_45 : FF RX5 45 5 (RX5, TX5, 16) 13 := ⟨by decide, mem_T 1 61 rfl rfl⟩
theorem ff_X5_48 : FF RX5 48 5 (RX5, TX5, 16) 14 := ⟨by decide, mem_T 1 62 rfl rfl⟩
theorem ff_X5_55 : FF RX5 55 5 (RX5, TX5, 16) 5 := ⟨by decide, mem_T 1 46 rfl rfl⟩
theorem ff_X5_63 : FF RX5 63 5 (RX5, TX5, 16) 9 := ⟨by decide, mem_T 1 56 rfl rfl⟩
theorem ff_X5_73 : FF RX5 73 5 (RX5, TX5, 16) 15 := ⟨by decide, mem_T 1 63 rfl rfl⟩
theorem ff_X6_11 : FF RX6 11 6 (RX6, TX6, 6) 0 := ⟨by decide, mem_T 1 221 rfl rfl⟩
theorem ff_X6_15 : FF RX6 15 6 (RX6, TX6, 6) 2 := ⟨by decide, mem_T 1 223 rfl rfl⟩
theorem ff_X6_18 : FF RX6 18 6 (RX6, TX6, 6) 3 := ⟨by decide, mem_T 1 225 rfl rfl⟩
theorem ff_X6_21 : FF RX6 21 6 (RX6, TX6, 6) 5 := ⟨by decide, mem_T 1 229 rfl rfl⟩
theorem ff_X6_24 : FF RX6 24 6 (RX6, TX6, 6) 1 := ⟨by decide, mem_T 1 222 rfl rfl⟩
theorem ff_X6_28 : FF RX6 28 6 (RX6, TX6, 6) 4 := ⟨by decide, mem_T 1 226 rfl rfl⟩
theorem ff_X7_9 : FF RX7 9 7 (RX7, TX7, 10) 0 := ⟨by decide, mem_T 2 132 rfl rfl⟩
theorem ff_X7_17 : FF RX7 17 7 (RX7, TX7, 10) 1 := ⟨by decide, mem_T 2 133 rfl rfl⟩
theorem ff_X7_20 : FF RX7 20 7 (RX7, TX7, 10) 3 := ⟨by decide, mem_T 2 135 rfl rfl⟩
theorem ff_X7_23 : FF RX7 23 7 (RX7, TX7, 10) 4 := ⟨by decide, mem_T 2 136 rfl rfl⟩
theorem ff_X7_26 : FF RX7 26 7 (RX7, TX7, 10) 5 := ⟨by decide, mem_T 2 137 rfl rfl⟩
theorem ff_X7_33 : FF RX7 33 7 (RX7, TX7, 10) 2 := ⟨by decide, mem_T 2 134 rfl rfl⟩
theorem ff_X7_66 : FF RX7 66 7 (RX7, TX7, 10) 6 := ⟨by decide, mem_T 2 138 rfl rfl⟩
theorem ff_X7_69 : FF RX7 69 7 (RX7, TX7, 10) 7 := ⟨by decide, mem_T 2 139 rfl rfl⟩
theorem ff_X7_82 : FF RX7 82 7 (RX7, TX7, 10) 8 := ⟨by decide, mem_T 2 141 rfl rfl⟩
theorem ff_X7_85 : FF RX7 85 7 (RX7, TX7, 10) 9 := ⟨by decide, mem_T 2 143 rfl rfl⟩
theorem ff_X8_11 : FF RX8 11 8 (RX8, TX8, 6) 0 := ⟨by decide, mem_T 1 185 rfl rfl⟩
theorem ff_X8_15 : FF RX8 15 8 (RX8, TX8, 6) 2 := ⟨by decide, mem_T 1 188 rfl rfl⟩
theorem ff_X8_18 : FF RX8 18 8 (RX8, TX8, 6) 3 := ⟨by decide, mem_T 1 190 rfl rfl⟩
theorem ff_X8_21 : FF RX8 21 8 (RX8, TX8, 6) 4 := ⟨by decide, mem_T 1 192 rfl rfl⟩
theorem ff_X8_24 : FF RX8 24 8 (RX8, TX8, 6) 1 := ⟨by decide, mem_T 1 186 rfl rfl⟩
theorem ff_X8_36 : FF RX8 36 8 (RX8, TX8, 6) 5 := ⟨by decide, mem_T 1 195 rfl rfl⟩
theorem ff_X9_11 : FF RX9 11 9 (RX9, TX9, 6) 0 := ⟨by decide, mem_T 2 234 rfl rfl⟩
theorem ff_X9_16 : FF RX9 16 9 (RX9, TX9, 6) 1 := ⟨by decide, mem_T 2 235 rfl rfl⟩
theorem ff_X9_24 : FF RX9 24 9 (RX9, TX9, 6) 2 := ⟨by decide, mem_T 2 236 rfl rfl⟩
theorem ff_X9_32 : FF RX9 32 9 (RX9, TX9, 6) 3 := ⟨by decide, mem_T 2 237 rfl rfl⟩
theorem ff_X9_35 : FF RX9 35 9 (RX9, TX9, 6) 4 := ⟨by decide, mem_T 2 239 rfl rfl⟩
theorem ff_X9_55 : FF RX9 55 9 (RX9, TX9, 6) 5 := ⟨by decide, mem_T 3 1 rfl rfl⟩
theorem ff_X10_9 : FF RX10 9 10 (RX10, TX10, 7) 1 := ⟨by decide, mem_T 2 173 rfl rfl⟩
theorem ff_X10_15 : FF RX10 15 10 (RX10, TX10, 7) 2 := ⟨by decide, mem_T 2 174 rfl rfl⟩
theorem ff_X10_18 : FF RX10 18 10 (RX10, TX10, 7) 3 := ⟨by decide, mem_T 2 175 rfl rfl⟩
theorem ff_X10_21 : FF RX10 21 10 (RX10, TX10, 7) 5 := ⟨by decide, mem_T 2 177 rfl rfl⟩
theorem ff_X10_24 : FF RX10 24 10 (RX10, TX10, 7) 6 := ⟨by decide, mem_T 2 178 rfl rfl⟩
theorem ff_X10_27 : FF RX10 27 10 (RX10, TX10, 7) 0 := ⟨by decide, mem_T 2 172 rfl rfl⟩
theorem ff_X10_41 : FF RX10 41 3 (RX3, TX3, 16) 10 := ⟨by decide, mem_T 1 133 rfl rfl⟩
theorem ff_X10_58 : FF RX10 58 10 (RX10, TX10, 7) 4 := ⟨by decide, mem_T 2 176 rfl rfl⟩
theorem ff_X10_65 : FF RX10 65 3 (RX3, TX3, 16) 0 := ⟨by decide, mem_T 1 106 rfl rfl⟩
theorem ff_X12_7 : FF RX12 7 12 (RX12, TX12, 98) 10 := ⟨by decide, mem_T 6 60 rfl rfl⟩
theorem ff_X12_13 : FF RX12 13 12 (RX12, TX12, 98) 11 := ⟨by decide, mem_T 6 61 rfl rfl⟩
theorem ff_X12_16 : FF RX12 16 12 (RX12, TX12, 98) 12 := ⟨by decide, mem_T 6 62 rfl rfl⟩
theorem ff_X12_19 : FF RX12 19 12 (RX12, TX12, 98) 13 := ⟨by decide, mem_T 6 63 rfl rfl⟩
theorem ff_X12_22 : FF RX12 22 12 (RX12, TX12, 98) 14 := ⟨by decide, mem_T 6 64 rfl rfl⟩
theorem ff_X12_25 : FF RX12 25 12 (RX12, TX12, 98) 15 := ⟨by decide, mem_T 6 65 rfl rfl⟩
theorem ff_X12_28 : FF RX12 28 12 (RX12, TX12, 98) 16 := ⟨by decide, mem_T 6 66 rfl rfl⟩
theorem ff_X12_31 : FF RX12 31 12 (RX12, TX12, 98) 17 := ⟨by decide, mem_T 6 67 rfl rfl⟩
theorem ff_X12_34 : FF RX12 34 12 (RX12, TX12, 98) 18 := ⟨by decide, mem_T 6 68 rfl rfl⟩
theorem ff_X12_37 : FF RX12 37 12 (RX12, TX12, 98) 19 := ⟨by decide, mem_T 6 69 rfl rfl⟩
theorem ff_X12_40 : FF RX12 40 12 (RX12, TX12, 98) 20 := ⟨by decide, mem_T 6 70 rfl rfl⟩
theorem ff_X12_43 : FF RX12 43 12 (RX12, TX12, 98) 21 := ⟨by decide, mem_T 6 71 rfl rfl⟩
theorem ff_X12_46 : FF RX12 46 12 (RX12, TX12, 98) 22 := ⟨by decide, mem_T 6 72 rfl rfl⟩
theorem ff_X12_49 : FF RX12 49 12 (RX12, TX12, 98) 23 := ⟨by decide, mem_T 6 73 rfl rfl⟩
theorem ff_X12_52 : FF RX12 52 12 (RX12, TX12, 98) 24 := ⟨by decide, mem_T 6 74 rfl rfl⟩
theorem ff_X12_55 : FF RX12 55 12 (RX12, TX12, 98) 25 := ⟨by decide, mem_T 6 75 rfl rfl⟩
theorem ff_X12_58 : FF RX12 58 12 (RX12, TX12, 98) 26 := ⟨by decide, mem_T 6 76 rfl rfl⟩
theorem ff_X12_61 : FF RX12 61 12 (RX12, TX12, 98) 27 := ⟨by decide, mem_T 6 77 rfl rfl⟩
theorem ff_X12_64 : FF RX12 64 12 (RX12, TX12, 98) 28 := ⟨by decide, mem_T 6 78 rfl rfl⟩
theorem ff_X12_67 : FF RX12 67 12 (RX12, TX12, 98) 29 := ⟨by decide, mem_T 6 79 rfl rfl⟩
theorem ff_X12_70 : FF RX12 70 12 (RX12, TX12, 98) 30 := ⟨by decide, mem_T 6 80 rfl rfl⟩
theorem ff_X12_73 : FF RX12 73 12 (RX12, TX12, 98) 31 := ⟨by decide, mem_T 6 81 rfl rfl⟩
theorem ff_X12_77 : FF RX12 77 12 (RX12, TX12, 98) 32 := ⟨by decide, mem_T 6 82 rfl rfl⟩
theorem ff_X12_80 : FF RX12 80 12 (RX12, TX12, 98) 33 := ⟨by decide, mem_T 6 83 rfl rfl⟩
theorem ff_X12_83 : FF RX12 83 12 (RX12, TX12, 98) 34 := ⟨by decide, mem_T 6 84 rfl rfl⟩
theorem ff_X12_86 : FF RX12 86 12 (RX12, TX12, 98) 35 := ⟨by decide, mem_T 6 85 rfl rfl⟩
theorem ff_X12_89 : FF RX12 89 12 (RX12, TX12, 98) 36 := ⟨by decide, mem_T 6 86 rfl rfl⟩
theorem ff_X12_92 : FF RX12 92 12 (RX12, TX12, 98) 37 := ⟨by decide, mem_T 6 87 rfl rfl⟩
theorem ff_X12_95 : FF RX12 95 12 (RX12, TX12, 98) 38 := ⟨by decide, mem_T 6 88 rfl rfl⟩
theorem ff_X12_98 : FF RX12 98 12 (RX12, TX12, 98) 39 := ⟨by decide, mem_T 6 89 rfl rfl⟩
theorem ff_X12_101 : FF RX12 101 12 (RX12, TX12, 98) 40 := ⟨by decide, mem_T 6 90 rfl rfl⟩
theorem ff_X12_104 : FF RX12 104 12 (RX12, TX12, 98) 41 := ⟨by decide, mem_T 6 91 rfl rfl⟩
theorem ff_X12_107 : FF RX12 107 12 (RX12, TX12, 98) 42 := ⟨by decide, mem_T 6 92 rfl rfl⟩
theorem ff_X12_110 : FF RX12 110 12 (RX12, TX12, 98) 43 := ⟨by decide, mem_T 6 93 rfl rfl⟩
theorem ff_X12_113 : FF RX12 113 12 (RX12, TX12, 98) 44 := ⟨by decide, mem_T 6 94 rfl rfl⟩
theorem ff_X12_116 : FF RX12 116 12 (RX12, TX12, 98) 45 := ⟨by decide, mem_T 6 95 rfl rfl⟩
theorem ff_X12_119 : FF RX12 119 12 (RX12, TX12, 98) 46 := ⟨by decide, mem_T 6 96 rfl rfl⟩
theorem ff_X12_122 : FF RX12 122 12 (RX12, TX12, 98) 47 := ⟨by decide, mem_T 6 97 rfl rfl⟩
theorem ff_X12_125 : FF RX12 125 12 (RX12, TX12, 98) 59 := ⟨by decide, mem_T 6 109 rfl rfl⟩
theorem ff_X12_129 : FF RX12 129 12 (RX12, TX12, 98) 60 := ⟨by decide, mem_T 6 110 rfl rfl⟩
theorem ff_X12_132 : FF RX12 132 12 (RX12, TX12, 98) 65 := ⟨by decide, mem_T 6 115 rfl rfl⟩
theorem ff_X12_135 : FF RX12 135 12 (RX12, TX12, 98) 66 := ⟨by decide, mem_T 6 116 rfl rfl⟩
theorem ff_X12_138 : FF RX12 138 12 (RX12, TX12, 98) 67 := ⟨by decide, mem_T 6 117 rfl rfl⟩
theorem ff_X12_141 : FF RX12 141 12 (RX12, TX12, 98) 68 := ⟨by decide, mem_T 6 118 rfl rfl⟩
theorem ff_X12_144 : FF RX12 144 12 (RX12, TX12, 98) 69 := ⟨by decide, mem_T 6 119 rfl rfl⟩
theorem ff_X12_147 : FF RX12 147 12 (RX12, TX12, 98) 70 := ⟨by decide, mem_T 6 120 rfl rfl⟩
theorem ff_X12_150 : FF RX12 150 12 (RX12, TX12, 98) 71 := ⟨by decide, mem_T 6 121 rfl rfl⟩
theorem ff_X12_153 : FF RX12 153 12 (RX12, TX12, 98) 72 := ⟨by decide, mem_T 6 122 rfl rfl⟩
theorem ff_X12_156 : FF RX12 156 12 (RX12, TX12, 98) 73 := ⟨by decide, mem_T 6 123 rfl rfl⟩
theorem ff_X12_159 : FF RX12 159 12 (RX12, TX12, 98) 74 := ⟨by decide, mem_T 6 124 rfl rfl⟩
theorem ff_X12_162 : FF RX12 162 12 (RX12, TX12, 98) 76 := ⟨by decide, mem_T 6 126 rfl rfl⟩
theorem ff_X12_166 : FF RX12 166 12 (RX12, TX12, 98) 77 := ⟨by decide, mem_T 6 127 rfl rfl⟩
theorem ff_X12_169 : FF RX12 169 12 (RX12, TX12, 98) 78 := ⟨by decide, mem_T 6 128 rfl rfl⟩
theorem ff_X12_172 : FF RX12 172 12 (RX12, TX12, 98) 79 := ⟨by decide, mem_T 6 129 rfl rfl⟩
theorem ff_X12_175 : FF RX12 175 12 (RX12, TX12, 98) 80 := ⟨by decide, mem_T 6 130 rfl rfl⟩
theorem ff_X12_178 : FF RX12 178 12 (RX12, TX12, 98) 81 := ⟨by decide, mem_T 6 131 rfl rfl⟩
theorem ff_X12_181 : FF RX12 181 12 (RX12, TX12, 98) 83 := ⟨by decide, mem_T 6 133 rfl rfl⟩
theorem ff_X12_184 : FF RX12 184 12 (RX12, TX12, 98) 84 := ⟨by decide, mem_T 6 134 rfl rfl⟩
theorem ff_X12_187 : FF RX12 187 12 (RX12, TX12, 98) 86 := ⟨by decide, mem_T 6 136 rfl rfl⟩
theorem ff_X12_190 : FF RX12 190 12 (RX12, TX12, 98) 87 := ⟨by decide, mem_T 6 137 rfl rfl⟩
theorem ff_X12_193 : FF RX12 193 12 (RX12, TX12, 98) 88 := ⟨by decide, mem_T 6 138 rfl rfl⟩
theorem ff_X12_196 : FF RX12 196 12 (RX12, TX12, 98) 89 := ⟨by decide, mem_T 6 139 rfl rfl⟩
theorem ff_X12_199 : FF RX12 199 12 (RX12, TX12, 98) 90 := ⟨by decide, mem_T 6 140 rfl rfl⟩
theorem ff_X12_202 : FF RX12 202 12 (RX12, TX12, 98) 91 := ⟨by decide, mem_T 6 141 rfl rfl⟩
theorem ff_X12_205 : FF RX12 205 12 (RX12, TX12, 98) 92 := ⟨by decide, mem_T 6 142 rfl rfl⟩
theorem ff_X12_208 : FF RX12 208 12 (RX12, TX12, 98) 93 := ⟨by decide, mem_T 6 143 rfl rfl⟩
theorem ff_X12_211 : FF RX12 211 12 (RX12, TX12, 98) 94 := ⟨by decide, mem_T 6 144 rfl rfl⟩
theorem ff_X12_214 : FF RX12 214 12 (RX12, TX12, 98) 96 := ⟨by decide, mem_T 6 146 rfl rfl⟩
theorem ff_X12_217 : FF RX12 217 12 (RX12, TX12, 98) 97 := ⟨by decide, mem_T 6 147 rfl rfl⟩
theorem ff_X12_220 : FF RX12 220 12 (RX12, TX12, 98) 1 := ⟨by decide, mem_T 6 51 rfl rfl⟩
theorem ff_X12_227 : FF RX12 227 12 (RX12, TX12, 98) 2 := ⟨by decide, mem_T 6 52 rfl rfl⟩
theorem ff_X12_230 : FF RX12 230 12 (RX12, TX12, 98) 4 := ⟨by decide, mem_T 6 54 rfl rfl⟩
theorem ff_X12_233 : FF RX12 233 12 (RX12, TX12, 98) 5 := ⟨by decide, mem_T 6 55 rfl rfl⟩
theorem ff_X12_236 : FF RX12 236 12 (RX12, TX12, 98) 6 := ⟨by decide, mem_T 6 56 rfl rfl⟩
theorem ff_X12_250 : FF RX12 250 12 (RX12, TX12, 98) 3 := ⟨by decide, mem_T 6 53 rfl rfl⟩
theorem ff_X12_253 : FF RX12 253 12 (RX12, TX12, 98) 0 := ⟨by decide, mem_T 6 50 rfl rfl⟩
theorem ff_X12_277 : FF RX12 277 12 (RX12, TX12, 98) 50 := ⟨by decide, mem_T 6 100 rfl rfl⟩
theorem ff_X12_280 : FF RX12 280 12 (RX12, TX12, 98) 51 := ⟨by decide, mem_T 6 101 rfl rfl⟩
theorem ff_X12_283 : FF RX12 283 12 (RX12, TX12, 98) 53 := ⟨by decide, mem_T 6 103 rfl rfl⟩
theorem ff_X12_328 : FF RX12 328 12 (RX12, TX12, 98) 52 := ⟨by decide, mem_T 6 102 rfl rfl⟩
theorem ff_X12_340 : FF RX12 340 12 (RX12, TX12, 98) 54 := ⟨by decide, mem_T 6 104 rfl rfl⟩
theorem ff_X12_343 : FF RX12 343 12 (RX12, TX12, 98) 55 := ⟨by decide, mem_T 6 105 rfl rfl⟩
theorem ff_X12_346 : FF RX12 346 12 (RX12, TX12, 98) 56 := ⟨by decide, mem_T 6 106 rfl rfl⟩
theorem ff_X12_355 : FF RX12 355 12 (RX12, TX12, 98) 49 := ⟨by decide, mem_T 6 99 rfl rfl⟩
theorem ff_X12_358 : FF RX12 358 12 (RX12, TX12, 98) 58 := ⟨by decide, mem_T 6 108 rfl rfl⟩
theorem ff_X12_390 : FF RX12 390 12 (RX12, TX12, 98) 48 := ⟨by decide, mem_T 6 98 rfl rfl⟩
theorem ff_X12_393 : FF RX12 393 12 (RX12, TX12, 98) 57 := ⟨by decide, mem_T 6 107 rfl rfl⟩
theorem ff_X12_405 : FF RX12 405 12 (RX12, TX12, 98) 61 := ⟨by decide, mem_T 6 111 rfl rfl⟩
theorem ff_X12_408 : FF RX12 408 12 (RX12, TX12, 98) 62 := ⟨by decide, mem_T 6 112 rfl rfl⟩
theorem ff_X12_411 : FF RX12 411 12 (RX12, TX12, 98) 63 := ⟨by decide, mem_T 6 113 rfl rfl⟩
theorem ff_X12_414 : FF RX12 414 12 (RX12, TX12, 98) 64 := ⟨by decide, mem_T 6 114 rfl rfl⟩
theorem ff_X12_435 : FF RX12 435 12 (RX12, TX12, 98) 75 := ⟨by decide, mem_T 6 125 rfl rfl⟩
theorem ff_X12_451 : FF RX12 451 12 (RX12, TX12, 98) 7 := ⟨by decide, mem_T 6 57 rfl rfl⟩
theorem ff_X12_457 : FF RX12 457 12 (RX12, TX12, 98) 82 := ⟨by decide, mem_T 6 132 rfl rfl⟩
theorem ff_X12_469 : FF RX12 469 12 (RX12, TX12, 98) 8 := ⟨by decide, mem_T 6 58 rfl rfl⟩
theorem ff_X12_472 : FF RX12 472 12 (RX12, TX12, 98) 85 := ⟨by decide, mem_T 6 135 rfl rfl⟩
theorem ff_X12_484 : FF RX12 484 12 (RX12, TX12, 98) 95 := ⟨by decide, mem_T 6 145 rfl rfl⟩
theorem ff_X12_494 : FF RX12 494 12 (RX12, TX12, 98) 9 := ⟨by decide, mem_T 6 59 rfl rfl⟩
abbrev mX0_init : Mu := (yX0_init, cX0_init, 4, none)
theorem km_X0_init : KM mX0_init 3 := ⟨mem_T 2 66 rfl rfl, mem_T 1 8 rfl rfl, ⟨by decide +kernel, by decide +kernel, by decide +kernel⟩, by decide⟩
theorem kv_X0_init : KI mX0_init 3 := ⟨km_X0_init, mem_T 2 65 rfl rfl, rfl, rfl⟩
abbrev mX0_addCrowd : Mu := (yX0_addCrowd, cX0_addCrowd, 7, (some .int))
theorem km_X0_addCrowd : KM mX0_addCrowd 5 := ⟨mem_T 4 210 rfl rfl, mem_T 1 8 rfl rfl, ⟨by decide +kernel, by decide +kernel, by decide +kernel⟩, by decide⟩
theorem kv_X0_addCrowd : KV mX0_addCrowd 5 := ⟨km_X0_addCrowd, mem_T 4 208 rfl rfl, mem_T 4 209 rfl rfl⟩
abbrev mX0_hasCrowd : Mu := (yX0_hasCrowd, cX0_hasCrowd, 2, (some .boolean))
theorem km_X0_hasCrowd : KM mX0_hasCrowd 1 := ⟨mem_T 4 219 rfl rfl, mem_T 1 8 rfl rfl, ⟨by decide +kernel, by decide +kernel, by decide +kernel⟩, by decide⟩
theorem kv_X0_hasCrowd : KV mX0_hasCrowd 1 := ⟨km_X0_hasCrowd, mem_T 4 217 rfl rfl, mem_T 4 218 rfl rfl⟩
abbrev mX0_inspect : Mu := (yX0_inspect, cX0_inspect, 4, none)
theorem km_X0_inspect : KM mX0_inspect 2 := ⟨mem_T 4 223 rfl rfl, mem_T 1 8 rfl rfl, ⟨by decide +kernel, by decide +kernel, by decide +kernel⟩, by decide⟩
theorem kv_X0_inspect : KV mX0_inspect 2 := ⟨km_X0_inspect, mem_T 4 221 rfl rfl, mem_T 4 222 rfl rfl⟩
abbrev mX0_worthOf : Mu := (yX0_worthOf, cX0_worthOf, 7, (some .int))
theorem km_X0_worthOf : KM mX0_worthOf 2 := ⟨mem_T 4 231 rfl rfl, mem_T 1 8 rfl rfl, ⟨by decide +kernel, by decide +kernel, by decide +kernel⟩, by decide⟩
theorem kv_X0_worthOf : KV mX0_worthOf 2 := ⟨km_X0_worthOf, mem_T 4 229 rfl rfl, mem_T 4 230 rfl rfl⟩
abbrev mX0_pass : Mu := (yX0_pass, cX0_pass, 3, none)
theorem km_X0_pass : KM mX0_pass 1 := ⟨mem_T 5 4 rfl rfl, mem_T 1 8 rfl rfl, ⟨by decide +kernel, by decide +kernel, by decide +kernel⟩, by decide⟩
theorem kv_X0_pass : KV mX0_pass 1 := ⟨km_X0_pass, mem_T 5 2 rfl rfl, mem_T 5 3 rfl rfl⟩
abbrev mX0_send : Mu := (yX0_send, cX0_send, 6, none)
theorem km_X0_send : KM mX0_send 1 := ⟨mem_T 5 9 rfl rfl, mem_T 1 8 rfl rfl, ⟨by decide +kernel, by decide +kernel, by decide +kernel⟩, by decide⟩
theorem kv_X0_send : KV mX0_send 1 := ⟨km_X0_send, mem_T 5 8 rfl rfl, mem_TS 17 (by decide +kernel) rfl⟩
abbrev mX0_bestHall : Mu := (yX0_bestHall, cX0_bestHall, 7, (some .int))
theorem km_X0_bestHall : KM mX0_bestHall 1 := ⟨mem_T 5 13 rfl rfl, mem_T 1 8 rfl rfl, ⟨by decide +kernel, by decide +kernel, by decide +kernel⟩, by decide⟩
theorem kv_X0_bestHall : KV mX0_bestHall 1 := ⟨km_X0_bestHall, mem_T 5 12 rfl rfl, mem_TS 18 (by decide +kernel) rfl⟩
abbrev mX0_note : Mu := (yX0_note, cX0_note, 3, none)
theorem km_X0_note : KM mX0_note 2 := ⟨mem_T 5 23 rfl rfl, mem_T 1 8 rfl rfl, ⟨by decide +kernel, by decide +kernel, by decide +kernel⟩, by decide⟩
theorem kv_X0_note : KV mX0_note 2 := ⟨km_X0_note, mem_T 5 22 rfl rfl, mem_TS 19 (by decide +kernel) rfl⟩
abbrev mX0_account : Mu := (yX0_account, cX0_account, 5, none)
theorem km_X0_account : KM mX0_account 1 := ⟨mem_T 5 27 rfl rfl, mem_T 1 8 rfl rfl, ⟨by decide +kernel, by decide +kernel, by decide +kernel⟩, by decide⟩
theorem kv_X0_account : KV mX0_account 1 := ⟨km_X0_account, mem_T 5 26 rfl rfl, mem_TS 20 (by decide +kernel) rfl⟩
abbrev mX0_spread : Mu := (yX0_spread, cX0_spread, 8, none)
theorem km_X0_spread : KM mX0_spread 2 := ⟨mem_T 5 33 rfl rfl, mem_T 1 8 rfl rfl, ⟨by decide +kernel, by decide +kernel, by decide +kernel⟩, by decide⟩
theorem kv_X0_spread : KV mX0_spread 2 := ⟨km_X0_spread, mem_T 5 32 rfl rfl, mem_TS 21 (by decide +kernel) rfl⟩
abbrev mX1_init : Mu := (yX1_init, cX1_init, 2, none)
theorem km_X1_init : KM mX1_init 1 := ⟨mem_T 2 198 rfl rfl, mem_T 1 11 rfl rfl, ⟨by decide +kernel, by decide +kernel, by decide +kernel⟩, by decide⟩
theorem kv_X1_init : KI mX1_init 1 := ⟨km_X1_init, mem_T 2 197 rfl rfl, rfl, rfl⟩
abbrev mX1_lend : Mu := (yX1_lend, cX1_lend, 5, (some .boolean))
theorem km_X1_lend : KM mX1_lend 3 := ⟨mem_T 5 181 rfl rfl, mem_T 1 11 rfl rfl, ⟨by decide +kernel, by decide +kernel, by decide +kernel⟩, by decide⟩
theorem kv_X1_lend : KV mX1_lend 3 := ⟨km_X1_lend, mem_T 5 179 rfl rfl, mem_T 5 180 rfl rfl⟩
abbrev mX1_fill : Mu := (yX1_fill, cX1_fill, 3, (some .boolean))
theorem km_X1_fill : KM mX1_fill 2 := ⟨mem_T 5 191 rfl rfl, mem_T 1 11 rfl rfl, ⟨by decide +kernel, by decide +kernel, by decide +kernel⟩, by decide⟩
theorem kv_X1_fill : KV mX1_fill 2 := ⟨km_X1_fill, mem_T 5 189 rfl rfl, mem_T 5 190 rfl rfl⟩
abbrev mX1_settle : Mu := (yX1_settle, cX1_settle, 4, none)
theorem km_X1_settle : KM mX1_settle 1 := ⟨mem_T 5 200 rfl rfl, mem_T 1 11 rfl rfl, ⟨by decide +kernel, by decide +kernel, by decide +kernel⟩, by decide⟩
theorem kv_X1_settle : KV mX1_settle 1 := ⟨km_X1_settle, mem_T 5 198 rfl rfl, mem_T 5 199 rfl rfl⟩
abbrev mX1_share : Mu := (yX1_share, cX1_share, 3, none)
theorem km_X1_share : KM mX1_share 0 := ⟨mem_T 5 204 rfl rfl, mem_T 1 11 rfl rfl, ⟨by decide +kernel, by decide +kernel, by decide +kernel⟩, by decide⟩
theorem kv_X1_share : KV mX1_share 0 := ⟨km_X1_share, mem_T 5 203 rfl rfl, mem_TS 35 (by decide +kernel) rfl⟩
abbrev mX1_payAgain : Mu := (yX1_payAgain, cX1_payAgain, 6, (some .boolean))
theorem km_X1_payAgain : KM mX1_payAgain 1 := ⟨mem_T 5 208 rfl rfl, mem_T 1 11 rfl rfl, ⟨by decide +kernel, by decide +kernel, by decide +kernel⟩, by decide⟩
theorem kv_X1_payAgain : KV mX1_payAgain 1 := ⟨km_X1_payAgain, mem_T 5 207 rfl rfl, mem_TS 36 (by decide +kernel) rfl⟩
abbrev mX1_purseOf : Mu := (yX1_purseOf, cX1_purseOf, 2, (some .long))
theorem km_X1_purseOf : KM mX1_purseOf 1 := ⟨mem_T 5 212 rfl rfl, mem_T 1 11 rfl rfl, ⟨by decide +kernel, by decide +kernel, by decide +kernel⟩, by decide⟩
theorem kv_X1_purseOf : KV mX1_purseOf 1 := ⟨km_X1_purseOf, mem_T 5 211 rfl rfl, mem_TS 37 (by decide +kernel) rfl⟩
abbrev mX2_init : Mu := (yX2_init, cX2_init, 4, none)
theorem km_X2_init : KM mX2_init 2 := ⟨mem_T 2 26 rfl rfl, mem_T 1 7 rfl rfl, ⟨by decide +kernel, by decide +kernel, by decide +kernel⟩, by decide⟩
theorem kv_X2_init : KI mX2_init 2 := ⟨km_X2_init, mem_T 2 25 rfl rfl, rfl, rfl⟩
abbrev mX2_adopt : Mu := (yX2_adopt, cX2_adopt, 4, (some (.object "TalkingReels$Script")))
theorem km_X2_adopt : KM mX2_adopt 2 := ⟨mem_T 4 145 rfl rfl, mem_T 1 7 rfl rfl, ⟨by decide +kernel, by decide +kernel, by decide +kernel⟩, by decide⟩
theorem kv_X2_adopt : KV mX2_adopt 2 := ⟨km_X2_adopt, mem_T 4 143 rfl rfl, mem_T 4 144 rfl rfl⟩
abbrev mX2_linesOf : Mu := (yX2_linesOf, cX2_linesOf, 2, (some .int))
theorem km_X2_linesOf : KM mX2_linesOf 1 := ⟨mem_T 4 149 rfl rfl, mem_T 1 7 rfl rfl, ⟨by decide +kernel, by decide +kernel, by decide +kernel⟩, by decide⟩
theorem kv_X2_linesOf : KV mX2_linesOf 1 := ⟨km_X2_linesOf, mem_T 4 147 rfl rfl, mem_T 4 148 rfl rfl⟩
abbrev mX2_linesInAll : Mu := (yX2_linesInAll, cX2_linesInAll, 3, (some .int))
theorem km_X2_linesInAll : KM mX2_linesInAll 0 := ⟨mem_T 6 43 rfl rfl, mem_T 1 7 rfl rfl, ⟨by decide +kernel, by decide +kernel, by decide +kernel⟩, by decide⟩
theorem kv_X2_linesInAll : KV mX2_linesInAll 0 := ⟨km_X2_linesInAll, mem_T 6 41 rfl rfl, mem_T 6 42 rfl rfl⟩
abbrev mX2_judge : Mu := (yX2_judge, cX2_judge, 5, none)
theorem km_X2_judge : KM mX2_judge 3 := ⟨mem_T 4 163 rfl rfl, mem_T 1 7 rfl rfl, ⟨by decide +kernel, by decide +kernel, by decide +kernel⟩, by decide⟩
theorem kv_X2_judge : KV mX2_judge 3 := ⟨km_X2_judge, mem_T 4 161 rfl rfl, mem_T 4 162 rfl rfl⟩
abbrev mX2_gather : Mu := (yX2_gather, cX2_gather, 6, none)
theorem km_X2_gather : KM mX2_gather 3 := ⟨mem_T 4 167 rfl rfl, mem_T 1 7 rfl rfl, ⟨by decide +kernel, by decide +kernel, by decide +kernel⟩, by decide⟩
theorem kv_X2_gather : KV mX2_gather 3 := ⟨km_X2_gather, mem_T 4 166 rfl rfl, mem_TS 14 (by decide +kernel) rfl⟩
abbrev mX2_ask : Mu := (yX2_ask, cX2_ask, 5, (some .int))
theorem km_X2_ask : KM mX2_ask 1 := ⟨mem_T 4 172 rfl rfl, mem_T 1 7 rfl rfl, ⟨by decide +kernel, by decide +kernel, by decide +kernel⟩, by decide⟩
theorem kv_X2_ask : KV mX2_ask 1 := ⟨km_X2_ask, mem_T 4 171 rfl rfl, mem_TS 15 (by decide +kernel) rfl⟩
abbrev mX2_bar : Mu := (yX2_bar, cX2_bar, 3, none)
theorem km_X2_bar : KM mX2_bar 2 := ⟨mem_T 4 188 rfl rfl, mem_T 1 7 rfl rfl, ⟨by decide +kernel, by decide +kernel, by decide +kernel⟩, by decide⟩
theorem kv_X2_bar : KV mX2_bar 2 := ⟨km_X2_bar, mem_T 4 187 rfl rfl, mem_TS 16 (by decide +kernel) rfl⟩
abbrev mX2_reason : Mu := (yX2_reason, cX2_reason, 4, (some .int))
theorem km_X2_reason : KM mX2_reason 2 := ⟨mem_T 4 194 rfl rfl, mem_T 1 7 rfl rfl, ⟨by decide +kernel, by decide +kernel, by decide +kernel⟩, by decide⟩
theorem kv_X2_reason : KV mX2_reason 2 := ⟨km_X2_reason, mem_T 4 192 rfl rfl, mem_T 4 193 rfl rfl⟩
abbrev mX3_init : Mu := (yX3_init, cX3_init, 1, none)
theorem km_X3_init : KM mX3_init 0 := ⟨mem_T 1 103 rfl rfl, mem_T 1 3 rfl rfl, ⟨by decide +kernel, by decide +kernel, by decide +kernel⟩, by decide⟩
theorem kv_X3_init : KI mX3_init 0 := ⟨km_X3_init, mem_T 1 102 rfl rfl, rfl, rfl⟩
abbrev mX3_addHall : Mu := (yX3_addHall, cX3_addHall, 6, (some .int))
theorem km_X3_addHall : KM mX3_addHall 4 := ⟨mem_T 3 123 rfl rfl, mem_T 1 3 rfl rfl, ⟨by decide +kernel, by decide +kernel, by decide +kernel⟩, by decide⟩
theorem kv_X3_addHall : KV mX3_addHall 4 := ⟨km_X3_addHall, mem_T 3 121 rfl rfl, mem_T 3 122 rfl rfl⟩
abbrev mX3_canAsk : Mu := (yX3_canAsk, cX3_canAsk, 2, (some .boolean))
theorem km_X3_canAsk : KM mX3_canAsk 2 := ⟨mem_T 3 127 rfl rfl, mem_T 1 3 rfl rfl, ⟨by decide +kernel, by decide +kernel, by decide +kernel⟩, by decide⟩
theorem kv_X3_canAsk : KS mX3_canAsk 2 := ⟨km_X3_canAsk, mem_T 3 126 rfl rfl⟩
abbrev mX3_demand : Mu := (yX3_demand, cX3_demand, 4, (some .boolean))
theorem km_X3_demand : KM mX3_demand 3 := ⟨mem_T 3 135 rfl rfl, mem_T 1 3 rfl rfl, ⟨by decide +kernel, by decide +kernel, by decide +kernel⟩, by decide⟩
theorem kv_X3_demand : KV mX3_demand 3 := ⟨km_X3_demand, mem_T 3 133 rfl rfl, mem_T 3 134 rfl rfl⟩
abbrev mX3_addSet : Mu := (yX3_addSet, cX3_addSet, 5, (some .int))
theorem km_X3_addSet : KM mX3_addSet 3 := ⟨mem_T 3 147 rfl rfl, mem_T 1 3 rfl rfl, ⟨by decide +kernel, by decide +kernel, by decide +kernel⟩, by decide⟩
theorem kv_X3_addSet : KV mX3_addSet 3 := ⟨km_X3_addSet, mem_T 3 145 rfl rfl, mem_T 3 146 rfl rfl⟩
abbrev mX3_hasHall : Mu := (yX3_hasHall, cX3_hasHall, 2, (some .boolean))
theorem km_X3_hasHall : KM mX3_hasHall 1 := ⟨mem_T 3 139 rfl rfl, mem_T 1 3 rfl rfl, ⟨by decide +kernel, by decide +kernel, by decide +kernel⟩, by decide⟩
theorem kv_X3_hasHall : KV mX3_hasHall 1 := ⟨km_X3_hasHall, mem_T 3 137 rfl rfl, mem_T 3 138 rfl rfl⟩
abbrev mX3_hasSet : Mu := (yX3_hasSet, cX3_hasSet, 2, (some .boolean))
theorem km_X3_hasSet : KM mX3_hasSet 1 := ⟨mem_T 3 155 rfl rfl, mem_T 1 3 rfl rfl, ⟨by decide +kernel, by decide +kernel, by decide +kernel⟩, by decide⟩
theorem kv_X3_hasSet : KV mX3_hasSet 1 := ⟨km_X3_hasSet, mem_T 3 153 rfl rfl, mem_T 3 154 rfl rfl⟩
abbrev mX3_goesTo : Mu := (yX3_goesTo, cX3_goesTo, 2, (some .boolean))
theorem km_X3_goesTo : KM mX3_goesTo 1 := ⟨mem_T 3 159 rfl rfl, mem_T 1 3 rfl rfl, ⟨by decide +kernel, by decide +kernel, by decide +kernel⟩, by decide⟩
theorem kv_X3_goesTo : KV mX3_goesTo 1 := ⟨km_X3_goesTo, mem_T 3 157 rfl rfl, mem_T 3 158 rfl rfl⟩
abbrev mX3_move : Mu := (yX3_move, cX3_move, 5, (some .boolean))
theorem km_X3_move : KM mX3_move 4 := ⟨mem_T 3 162 rfl rfl, mem_T 1 3 rfl rfl, ⟨by decide +kernel, by decide +kernel, by decide +kernel⟩, by decide⟩
theorem kv_X3_move : KS mX3_move 4 := ⟨km_X3_move, mem_T 3 161 rfl rfl⟩
abbrev mX3_canPlay : Mu := (yX3_canPlay, cX3_canPlay, 4, (some .boolean))
theorem km_X3_canPlay : KM mX3_canPlay 2 := ⟨mem_T 4 198 rfl rfl, mem_T 1 3 rfl rfl, ⟨by decide +kernel, by decide +kernel, by decide +kernel⟩, by decide⟩
theorem kv_X3_canPlay : KV mX3_canPlay 2 := ⟨km_X3_canPlay, mem_T 4 196 rfl rfl, mem_T 4 197 rfl rfl⟩
abbrev mX3_places : Mu := (yX3_places, cX3_places, 2, (some .int))
theorem km_X3_places : KM mX3_places 1 := ⟨mem_T 5 17 rfl rfl, mem_T 1 3 rfl rfl, ⟨by decide +kernel, by decide +kernel, by decide +kernel⟩, by decide⟩
theorem kv_X3_places : KV mX3_places 1 := ⟨km_X3_places, mem_T 5 15 rfl rfl, mem_T 5 16 rfl rfl⟩
abbrev mX3_tell : Mu := (yX3_tell, cX3_tell, 3, (some .long))
theorem km_X3_tell : KM mX3_tell 2 := ⟨mem_T 5 41 rfl rfl, mem_T 1 3 rfl rfl, ⟨by decide +kernel, by decide +kernel, by decide +kernel⟩, by decide⟩
theorem kv_X3_tell : KV mX3_tell 2 := ⟨km_X3_tell, mem_T 5 39 rfl rfl, mem_T 5 40 rfl rfl⟩
abbrev mX3_lookersInAll : Mu := (yX3_lookersInAll, cX3_lookersInAll, 3, (some .int))
theorem km_X3_lookersInAll : KM mX3_lookersInAll 0 := ⟨mem_T 6 31 rfl rfl, mem_T 1 3 rfl rfl, ⟨by decide +kernel, by decide +kernel, by decide +kernel⟩, by decide⟩
theorem kv_X3_lookersInAll : KV mX3_lookersInAll 0 := ⟨km_X3_lookersInAll, mem_T 6 29 rfl rfl, mem_T 6 30 rfl rfl⟩
abbrev mX3_players : Mu := (yX3_players, cX3_players, 3, (some .int))
theorem km_X3_players : KM mX3_players 0 := ⟨mem_T 6 35 rfl rfl, mem_T 1 3 rfl rfl, ⟨by decide +kernel, by decide +kernel, by decide +kernel⟩, by decide⟩
theorem kv_X3_players : KV mX3_players 0 := ⟨km_X3_players, mem_T 6 33 rfl rfl, mem_T 6 34 rfl rfl⟩
abbrev mX4_init : Mu := (yX4_init, cX4_init, 2, none)
theorem km_X4_init : KM mX4_init 1 := ⟨mem_T 1 213 rfl rfl, mem_T 1 5 rfl rfl, ⟨by decide +kernel, by decide +kernel, by decide +kernel⟩, by decide⟩
theorem kv_X4_init : KI mX4_init 1 := ⟨km_X4_init, mem_T 1 212 rfl rfl, rfl, rfl⟩
abbrev mX4_forget : Mu := (yX4_forget, cX4_forget, 1, none)
theorem km_X4_forget : KM mX4_forget 0 := ⟨mem_T 3 195 rfl rfl, mem_T 1 5 rfl rfl, ⟨by decide +kernel, by decide +kernel, by decide +kernel⟩, by decide⟩
theorem kv_X4_forget : KV mX4_forget 0 := ⟨km_X4_forget, mem_T 3 193 rfl rfl, mem_T 3 194 rfl rfl⟩
abbrev mX4_parse : Mu := (yX4_parse, cX4_parse, 3, (some .boolean))
theorem km_X4_parse : KM mX4_parse 0 := ⟨mem_T 3 199 rfl rfl, mem_T 1 5 rfl rfl, ⟨by decide +kernel, by decide +kernel, by decide +kernel⟩, by decide⟩
theorem kv_X4_parse : KV mX4_parse 0 := ⟨km_X4_parse, mem_T 3 197 rfl rfl, mem_T 3 198 rfl rfl⟩
abbrev mX4_sign : Mu := (yX4_sign, cX4_sign, 1, (some .int))
theorem km_X4_sign : KM mX4_sign 0 := ⟨mem_T 4 104 rfl rfl, mem_T 1 5 rfl rfl, ⟨by decide +kernel, by decide +kernel, by decide +kernel⟩, by decide⟩
theorem kv_X4_sign : KV mX4_sign 0 := ⟨km_X4_sign, mem_T 4 103 rfl rfl, mem_TS 6 (by decide +kernel) rfl⟩
abbrev mX4_refuse : Mu := (yX4_refuse, cX4_refuse, 2, (some .boolean))
theorem km_X4_refuse : KM mX4_refuse 1 := ⟨mem_T 4 113 rfl rfl, mem_T 1 5 rfl rfl, ⟨by decide +kernel, by decide +kernel, by decide +kernel⟩, by decide⟩
theorem kv_X4_refuse : KV mX4_refuse 1 := ⟨km_X4_refuse, mem_T 4 112 rfl rfl, mem_TS 8 (by decide +kernel) rfl⟩
abbrev mX4_take : Mu := (yX4_take, cX4_take, 2, (some .boolean))
theorem km_X4_take : KM mX4_take 1 := ⟨mem_T 4 133 rfl rfl, mem_T 1 5 rfl rfl, ⟨by decide +kernel, by decide +kernel, by decide +kernel⟩, by decide⟩
theorem kv_X4_take : KV mX4_take 1 := ⟨km_X4_take, mem_T 4 132 rfl rfl, mem_TS 11 (by decide +kernel) rfl⟩
abbrev mX4_line : Mu := (yX4_line, cX4_line, 2, (some .boolean))
theorem km_X4_line : KM mX4_line 0 := ⟨mem_T 4 108 rfl rfl, mem_T 1 5 rfl rfl, ⟨by decide +kernel, by decide +kernel, by decide +kernel⟩, by decide⟩
theorem kv_X4_line : KV mX4_line 0 := ⟨km_X4_line, mem_T 4 107 rfl rfl, mem_TS 7 (by decide +kernel) rfl⟩
abbrev mX4_condition : Mu := (yX4_condition, cX4_condition, 5, (some .boolean))
theorem km_X4_condition : KM mX4_condition 1 := ⟨mem_T 4 125 rfl rfl, mem_T 1 5 rfl rfl, ⟨by decide +kernel, by decide +kernel, by decide +kernel⟩, by decide⟩
theorem kv_X4_condition : KV mX4_condition 1 := ⟨km_X4_condition, mem_T 4 124 rfl rfl, mem_TS 9 (by decide +kernel) rfl⟩
abbrev mX4_single : Mu := (yX4_single, cX4_single, 4, (some .boolean))
theorem km_X4_single : KM mX4_single 1 := ⟨mem_T 4 129 rfl rfl, mem_T 1 5 rfl rfl, ⟨by decide +kernel, by decide +kernel, by decide +kernel⟩, by decide⟩
theorem kv_X4_single : KV mX4_single 1 := ⟨km_X4_single, mem_T 4 128 rfl rfl, mem_TS 10 (by decide +kernel) rfl⟩
abbrev mX4_expression : Mu := (yX4_expression, cX4_expression, 4, (some .boolean))
theorem km_X4_expression : KM mX4_expression 0 := ⟨mem_T 4 137 rfl rfl, mem_T 1 5 rfl rfl, ⟨by decide +kernel, by decide +kernel, by decide +kernel⟩, by decide⟩
theorem kv_X4_expression : KV mX4_expression 0 := ⟨km_X4_expression, mem_T 4 136 rfl rfl, mem_TS 12 (by decide +kernel) rfl⟩
abbrev mX4_operand : Mu := (yX4_operand, cX4_operand, 4, (some .boolean))
theorem km_X4_operand : KM mX4_operand 1 := ⟨mem_T 4 141 rfl rfl, mem_T 1 5 rfl rfl, ⟨by decide +kernel, by decide +kernel, by decide +kernel⟩, by decide⟩
theorem kv_X4_operand : KV mX4_operand 1 := ⟨km_X4_operand, mem_T 4 140 rfl rfl, mem_TS 13 (by decide +kernel) rfl⟩
abbrev mX5_init : Mu := (yX5_init, cX5_init, 1, none)
theorem km_X5_init : KM mX5_init 0 := ⟨mem_T 1 33 rfl rfl, mem_T 1 2 rfl rfl, ⟨by decide +kernel, by decide +kernel, by decide +kernel⟩, by decide⟩
theorem kv_X5_init : KI mX5_init 0 := ⟨km_X5_init, mem_T 1 32 rfl rfl, rfl, rfl⟩
abbrev mX5_addPicture : Mu := (yX5_addPicture, cX5_addPicture, 7, (some .int))
theorem km_X5_addPicture : KM mX5_addPicture 5 := ⟨mem_T 3 57 rfl rfl, mem_T 1 2 rfl rfl, ⟨by decide +kernel, by decide +kernel, by decide +kernel⟩, by decide⟩
theorem kv_X5_addPicture : KV mX5_addPicture 5 := ⟨km_X5_addPicture, mem_T 3 55 rfl rfl, mem_T 3 56 rfl rfl⟩
abbrev mX5_addPrint : Mu := (yX5_addPrint, cX5_addPrint, 2, (some .int))
theorem km_X5_addPrint : KM mX5_addPrint 1 := ⟨mem_T 3 68 rfl rfl, mem_T 1 2 rfl rfl, ⟨by decide +kernel, by decide +kernel, by decide +kernel⟩, by decide⟩
theorem kv_X5_addPrint : KV mX5_addPrint 1 := ⟨km_X5_addPrint, mem_T 3 66 rfl rfl, mem_T 3 67 rfl rfl⟩
abbrev mX5_tell : Mu := (yX5_tell, cX5_tell, 6, (some .int))
theorem km_X5_tell : KM mX5_tell 5 := ⟨mem_T 3 80 rfl rfl, mem_T 1 2 rfl rfl, ⟨by decide +kernel, by decide +kernel, by decide +kernel⟩, by decide⟩
theorem kv_X5_tell : KV mX5_tell 5 := ⟨km_X5_tell, mem_T 3 78 rfl rfl, mem_T 3 79 rfl rfl⟩
abbrev mX5_canBe : Mu := (yX5_canBe, cX5_canBe, 3, (some .boolean))
theorem km_X5_canBe : KM mX5_canBe 3 := ⟨mem_T 3 91 rfl rfl, mem_T 1 2 rfl rfl, ⟨by decide +kernel, by decide +kernel, by decide +kernel⟩, by decide⟩
theorem kv_X5_canBe : KS mX5_canBe 3 := ⟨km_X5_canBe, mem_T 3 90 rfl rfl⟩
abbrev mX5_hasPicture : Mu := (yX5_hasPicture, cX5_hasPicture, 2, (some .boolean))
theorem km_X5_hasPicture : KM mX5_hasPicture 1 := ⟨mem_T 3 72 rfl rfl, mem_T 1 2 rfl rfl, ⟨by decide +kernel, by decide +kernel, by decide +kernel⟩, by decide⟩
theorem kv_X5_hasPicture : KV mX5_hasPicture 1 := ⟨km_X5_hasPicture, mem_T 3 70 rfl rfl, mem_T 3 71 rfl rfl⟩
abbrev mX5_hasPrint : Mu := (yX5_hasPrint, cX5_hasPrint, 2, (some .boolean))
theorem km_X5_hasPrint : KM mX5_hasPrint 1 := ⟨mem_T 3 88 rfl rfl, mem_T 1 2 rfl rfl, ⟨by decide +kernel, by decide +kernel, by decide +kernel⟩, by decide⟩
theorem kv_X5_hasPrint : KV mX5_hasPrint 1 := ⟨km_X5_hasPrint, mem_T 3 86 rfl rfl, mem_T 3 87 rfl rfl⟩
abbrev mX5_hasFrame : Mu := (yX5_hasFrame, cX5_hasFrame, 3, (some .boolean))
theorem km_X5_hasFrame : KM mX5_hasFrame 2 := ⟨mem_T 3 84 rfl rfl, mem_T 1 2 rfl rfl, ⟨by decide +kernel, by decide +kernel, by decide +kernel⟩, by decide⟩
theorem kv_X5_hasFrame : KV mX5_hasFrame 2 := ⟨km_X5_hasFrame, mem_T 3 82 rfl rfl, mem_T 3 83 rfl rfl⟩
abbrev mX5_leadAt : Mu := (yX5_leadAt, cX5_leadAt, 7, (some .int))
theorem km_X5_leadAt : KM mX5_leadAt 3 := ⟨mem_T 3 101 rfl rfl, mem_T 1 2 rfl rfl, ⟨by decide +kernel, by decide +kernel, by decide +kernel⟩, by decide⟩
theorem kv_X5_leadAt : KV mX5_leadAt 3 := ⟨km_X5_leadAt, mem_T 3 99 rfl rfl, mem_T 3 100 rfl rfl⟩
abbrev mX5_firstOff : Mu := (yX5_firstOff, cX5_firstOff, 6, (some .int))
theorem km_X5_firstOff : KM mX5_firstOff 2 := ⟨mem_T 3 110 rfl rfl, mem_T 1 2 rfl rfl, ⟨by decide +kernel, by decide +kernel, by decide +kernel⟩, by decide⟩
theorem kv_X5_firstOff : KV mX5_firstOff 2 := ⟨km_X5_firstOff, mem_T 3 108 rfl rfl, mem_T 3 109 rfl rfl⟩
abbrev mX5_isOff : Mu := (yX5_isOff, cX5_isOff, 4, (some .boolean))
theorem km_X5_isOff : KM mX5_isOff 3 := ⟨mem_T 3 114 rfl rfl, mem_T 1 2 rfl rfl, ⟨by decide +kernel, by decide +kernel, by decide +kernel⟩, by decide⟩
theorem kv_X5_isOff : KV mX5_isOff 3 := ⟨km_X5_isOff, mem_T 3 113 rfl rfl, mem_TS 0 (by decide +kernel) rfl⟩
abbrev mX5_tellOf : Mu := (yX5_tellOf, cX5_tellOf, 3, (some .int))
theorem km_X5_tellOf : KM mX5_tellOf 2 := ⟨mem_T 5 50 rfl rfl, mem_T 1 2 rfl rfl, ⟨by decide +kernel, by decide +kernel, by decide +kernel⟩, by decide⟩
theorem kv_X5_tellOf : KV mX5_tellOf 2 := ⟨km_X5_tellOf, mem_T 5 48 rfl rfl, mem_T 5 49 rfl rfl⟩
abbrev mX5_wornOut : Mu := (yX5_wornOut, cX5_wornOut, 3, (some .int))
theorem km_X5_wornOut : KM mX5_wornOut 0 := ⟨mem_T 6 39 rfl rfl, mem_T 1 2 rfl rfl, ⟨by decide +kernel, by decide +kernel, by decide +kernel⟩, by decide⟩
theorem kv_X5_wornOut : KV mX5_wornOut 0 := ⟨km_X5_wornOut, mem_T 6 37 rfl rfl, mem_T 6 38 rfl rfl⟩
abbrev mX6_init : Mu := (yX6_init, cX6_init, 1, none)
theorem km_X6_init : KM mX6_init 0 := ⟨mem_T 1 219 rfl rfl, mem_T 1 6 rfl rfl, ⟨by decide +kernel, by decide +kernel, by decide +kernel⟩, by decide⟩
theorem kv_X6_init : KI mX6_init 0 := ⟨km_X6_init, mem_T 1 218 rfl rfl, rfl, rfl⟩
abbrev mX6_empty : Mu := (yX6_empty, cX6_empty, 1, none)
theorem km_X6_empty : KM mX6_empty 0 := ⟨mem_T 4 100 rfl rfl, mem_T 1 6 rfl rfl, ⟨by decide +kernel, by decide +kernel, by decide +kernel⟩, by decide⟩
theorem kv_X6_empty : KV mX6_empty 0 := ⟨km_X6_empty, mem_T 4 98 rfl rfl, mem_T 4 99 rfl rfl⟩
abbrev mX6_begin : Mu := (yX6_begin, cX6_begin, 2, none)
theorem km_X6_begin : KM mX6_begin 1 := ⟨mem_T 4 117 rfl rfl, mem_T 1 6 rfl rfl, ⟨by decide +kernel, by decide +kernel, by decide +kernel⟩, by decide⟩
theorem kv_X6_begin : KV mX6_begin 1 := ⟨km_X6_begin, mem_T 4 115 rfl rfl, mem_T 4 116 rfl rfl⟩
abbrev mX6_add : Mu := (yX6_add, cX6_add, 2, none)
theorem km_X6_add : KM mX6_add 1 := ⟨mem_T 4 121 rfl rfl, mem_T 1 6 rfl rfl, ⟨by decide +kernel, by decide +kernel, by decide +kernel⟩, by decide⟩
theorem kv_X6_add : KV mX6_add 1 := ⟨km_X6_add, mem_T 4 119 rfl rfl, mem_T 4 120 rfl rfl⟩
abbrev mX6_isSo : Mu := (yX6_isSo, cX6_isSo, 7, (some .boolean))
theorem km_X6_isSo : KM mX6_isSo 2 := ⟨mem_T 4 176 rfl rfl, mem_T 1 6 rfl rfl, ⟨by decide +kernel, by decide +kernel, by decide +kernel⟩, by decide⟩
theorem kv_X6_isSo : KV mX6_isSo 2 := ⟨km_X6_isSo, mem_T 4 174 rfl rfl, mem_T 4 175 rfl rfl⟩
abbrev mX6_value : Mu := (yX6_value, cX6_value, 1, (some .int))
theorem km_X6_value : KM mX6_value 0 := ⟨mem_T 4 183 rfl rfl, mem_T 1 6 rfl rfl, ⟨by decide +kernel, by decide +kernel, by decide +kernel⟩, by decide⟩
theorem kv_X6_value : KV mX6_value 0 := ⟨km_X6_value, mem_T 4 181 rfl rfl, mem_T 4 182 rfl rfl⟩
abbrev mX6_join : Mu := (yX6_join, cX6_join, 3, (some .int))
theorem km_X6_join : KM mX6_join 3 := ⟨mem_T 4 179 rfl rfl, mem_T 1 6 rfl rfl, ⟨by decide +kernel, by decide +kernel, by decide +kernel⟩, by decide⟩
theorem kv_X6_join : KS mX6_join 3 := ⟨km_X6_join, mem_T 4 178 rfl rfl⟩
abbrev mX7_init : Mu := (yX7_init, cX7_init, 1, none)
theorem km_X7_init : KM mX7_init 0 := ⟨mem_T 2 129 rfl rfl, mem_T 1 9 rfl rfl, ⟨by decide +kernel, by decide +kernel, by decide +kernel⟩, by decide⟩
theorem kv_X7_init : KI mX7_init 0 := ⟨km_X7_init, mem_T 2 128 rfl rfl, rfl, rfl⟩
abbrev mX7_addVersion : Mu := (yX7_addVersion, cX7_addVersion, 2, (some .int))
theorem km_X7_addVersion : KM mX7_addVersion 1 := ⟨mem_T 5 58 rfl rfl, mem_T 1 9 rfl rfl, ⟨by decide +kernel, by decide +kernel, by decide +kernel⟩, by decide⟩
theorem kv_X7_addVersion : KV mX7_addVersion 1 := ⟨km_X7_addVersion, mem_T 5 56 rfl rfl, mem_T 5 57 rfl rfl⟩
abbrev mX7_hasVersion : Mu := (yX7_hasVersion, cX7_hasVersion, 2, (some .boolean))
theorem km_X7_hasVersion : KM mX7_hasVersion 1 := ⟨mem_T 5 71 rfl rfl, mem_T 1 9 rfl rfl, ⟨by decide +kernel, by decide +kernel, by decide +kernel⟩, by decide⟩
theorem kv_X7_hasVersion : KV mX7_hasVersion 1 := ⟨km_X7_hasVersion, mem_T 5 70 rfl rfl, mem_TS 22 (by decide +kernel) rfl⟩
abbrev mX7_link : Mu := (yX7_link, cX7_link, 4, (some .boolean))
theorem km_X7_link : KM mX7_link 3 := ⟨mem_T 5 67 rfl rfl, mem_T 1 9 rfl rfl, ⟨by decide +kernel, by decide +kernel, by decide +kernel⟩, by decide⟩
theorem kv_X7_link : KV mX7_link 3 := ⟨km_X7_link, mem_T 5 65 rfl rfl, mem_T 5 66 rfl rfl⟩
abbrev mX7_order : Mu := (yX7_order, cX7_order, 6, (some .int))
theorem km_X7_order : KM mX7_order 2 := ⟨mem_T 5 79 rfl rfl, mem_T 1 9 rfl rfl, ⟨by decide +kernel, by decide +kernel, by decide +kernel⟩, by decide⟩
theorem kv_X7_order : KV mX7_order 2 := ⟨km_X7_order, mem_T 5 77 rfl rfl, mem_T 5 78 rfl rfl⟩
abbrev mX7_fill : Mu := (yX7_fill, cX7_fill, 5, none)
theorem km_X7_fill : KM mX7_fill 1 := ⟨mem_T 5 89 rfl rfl, mem_T 1 9 rfl rfl, ⟨by decide +kernel, by decide +kernel, by decide +kernel⟩, by decide⟩
theorem kv_X7_fill : KV mX7_fill 1 := ⟨km_X7_fill, mem_T 5 88 rfl rfl, mem_TS 23 (by decide +kernel) rfl⟩
abbrev mX7_after : Mu := (yX7_after, cX7_after, 5, (some .int))
theorem km_X7_after : KM mX7_after 3 := ⟨mem_T 5 98 rfl rfl, mem_T 1 9 rfl rfl, ⟨by decide +kernel, by decide +kernel, by decide +kernel⟩, by decide⟩
theorem kv_X7_after : KV mX7_after 3 := ⟨km_X7_after, mem_T 5 97 rfl rfl, mem_TS 25 (by decide +kernel) rfl⟩
abbrev mX7_next : Mu := (yX7_next, cX7_next, 7, (some .int))
theorem km_X7_next : KM mX7_next 2 := ⟨mem_T 5 94 rfl rfl, mem_T 1 9 rfl rfl, ⟨by decide +kernel, by decide +kernel, by decide +kernel⟩, by decide⟩
theorem kv_X7_next : KV mX7_next 2 := ⟨km_X7_next, mem_T 5 93 rfl rfl, mem_TS 24 (by decide +kernel) rfl⟩
abbrev mX7_fewestNights : Mu := (yX7_fewestNights, cX7_fewestNights, 4, (some .int))
theorem km_X7_fewestNights : KM mX7_fewestNights 1 := ⟨mem_T 5 102 rfl rfl, mem_T 1 9 rfl rfl, ⟨by decide +kernel, by decide +kernel, by decide +kernel⟩, by decide⟩
theorem kv_X7_fewestNights : KV mX7_fewestNights 1 := ⟨km_X7_fewestNights, mem_T 5 101 rfl rfl, mem_TS 26 (by decide +kernel) rfl⟩
abbrev mX7_addPerson : Mu := (yX7_addPerson, cX7_addPerson, 3, (some .int))
theorem km_X7_addPerson : KM mX7_addPerson 2 := ⟨mem_T 5 110 rfl rfl, mem_T 1 9 rfl rfl, ⟨by decide +kernel, by decide +kernel, by decide +kernel⟩, by decide⟩
theorem kv_X7_addPerson : KV mX7_addPerson 2 := ⟨km_X7_addPerson, mem_T 5 108 rfl rfl, mem_T 5 109 rfl rfl⟩
abbrev mX7_cast : Mu := (yX7_cast, cX7_cast, 6, (some .boolean))
theorem km_X7_cast : KM mX7_cast 2 := ⟨mem_T 5 118 rfl rfl, mem_T 1 9 rfl rfl, ⟨by decide +kernel, by decide +kernel, by decide +kernel⟩, by decide⟩
theorem kv_X7_cast : KV mX7_cast 2 := ⟨km_X7_cast, mem_T 5 116 rfl rfl, mem_T 5 117 rfl rfl⟩
abbrev mX7_ableSet : Mu := (yX7_ableSet, cX7_ableSet, 4, (some .int))
theorem km_X7_ableSet : KM mX7_ableSet 1 := ⟨mem_T 5 122 rfl rfl, mem_T 1 9 rfl rfl, ⟨by decide +kernel, by decide +kernel, by decide +kernel⟩, by decide⟩
theorem kv_X7_ableSet : KV mX7_ableSet 1 := ⟨km_X7_ableSet, mem_T 5 121 rfl rfl, mem_TS 27 (by decide +kernel) rfl⟩
abbrev mX7_speaks : Mu := (yX7_speaks, cX7_speaks, 5, (some .boolean))
theorem km_X7_speaks : KM mX7_speaks 2 := ⟨mem_T 5 126 rfl rfl, mem_T 1 9 rfl rfl, ⟨by decide +kernel, by decide +kernel, by decide +kernel⟩, by decide⟩
theorem kv_X7_speaks : KV mX7_speaks 2 := ⟨km_X7_speaks, mem_T 5 125 rfl rfl, mem_TS 28 (by decide +kernel) rfl⟩
abbrev mX7_count : Mu := (yX7_count, cX7_count, 3, none)
theorem km_X7_count : KM mX7_count 2 := ⟨mem_T 5 130 rfl rfl, mem_T 1 9 rfl rfl, ⟨by decide +kernel, by decide +kernel, by decide +kernel⟩, by decide⟩
theorem kv_X7_count : KV mX7_count 2 := ⟨km_X7_count, mem_T 5 129 rfl rfl, mem_TS 29 (by decide +kernel) rfl⟩
abbrev mX8_init : Mu := (yX8_init, cX8_init, 1, none)
theorem km_X8_init : KM mX8_init 0 := ⟨mem_T 1 183 rfl rfl, mem_T 1 4 rfl rfl, ⟨by decide +kernel, by decide +kernel, by decide +kernel⟩, by decide⟩
theorem kv_X8_init : KI mX8_init 0 := ⟨km_X8_init, mem_T 1 182 rfl rfl, rfl, rfl⟩
abbrev mX8_append : Mu := (yX8_append, cX8_append, 6, (some .int))
theorem km_X8_append : KM mX8_append 5 := ⟨mem_T 3 174 rfl rfl, mem_T 1 4 rfl rfl, ⟨by decide +kernel, by decide +kernel, by decide +kernel⟩, by decide⟩
theorem kv_X8_append : KV mX8_append 5 := ⟨km_X8_append, mem_T 3 172 rfl rfl, mem_T 3 173 rfl rfl⟩
abbrev mX8_appendBytes : Mu := (yX8_appendBytes, cX8_appendBytes, 3, none)
theorem km_X8_appendBytes : KM mX8_appendBytes 1 := ⟨mem_T 3 178 rfl rfl, mem_T 1 4 rfl rfl, ⟨by decide +kernel, by decide +kernel, by decide +kernel⟩, by decide⟩
theorem kv_X8_appendBytes : KV mX8_appendBytes 1 := ⟨km_X8_appendBytes, mem_T 3 177 rfl rfl, mem_TS 1 (by decide +kernel) rfl⟩
abbrev mX8_cut : Mu := (yX8_cut, cX8_cut, 2, (some .boolean))
theorem km_X8_cut : KM mX8_cut 1 := ⟨mem_T 3 186 rfl rfl, mem_T 1 4 rfl rfl, ⟨by decide +kernel, by decide +kernel, by decide +kernel⟩, by decide⟩
theorem kv_X8_cut : KV mX8_cut 1 := ⟨km_X8_cut, mem_T 3 184 rfl rfl, mem_T 3 185 rfl rfl⟩
abbrev mX8_scan : Mu := (yX8_scan, cX8_scan, 4, none)
theorem km_X8_scan : KM mX8_scan 0 := ⟨mem_T 3 203 rfl rfl, mem_T 1 4 rfl rfl, ⟨by decide +kernel, by decide +kernel, by decide +kernel⟩, by decide⟩
theorem kv_X8_scan : KV mX8_scan 0 := ⟨km_X8_scan, mem_T 3 201 rfl rfl, mem_T 3 202 rfl rfl⟩
abbrev mX8_isLetter : Mu := (yX8_isLetter, cX8_isLetter, 1, (some .boolean))
theorem km_X8_isLetter : KM mX8_isLetter 1 := ⟨mem_T 3 209 rfl rfl, mem_T 1 4 rfl rfl, ⟨by decide +kernel, by decide +kernel, by decide +kernel⟩, by decide⟩
theorem kv_X8_isLetter : KS mX8_isLetter 1 := ⟨km_X8_isLetter, mem_T 3 208 rfl rfl⟩
abbrev mX8_isDigit : Mu := (yX8_isDigit, cX8_isDigit, 1, (some .boolean))
theorem km_X8_isDigit : KM mX8_isDigit 1 := ⟨mem_T 3 212 rfl rfl, mem_T 1 4 rfl rfl, ⟨by decide +kernel, by decide +kernel, by decide +kernel⟩, by decide⟩
theorem kv_X8_isDigit : KS mX8_isDigit 1 := ⟨km_X8_isDigit, mem_T 3 211 rfl rfl⟩
abbrev mX8_standTogether : Mu := (yX8_standTogether, cX8_standTogether, 2, (some .boolean))
theorem km_X8_standTogether : KM mX8_standTogether 2 := ⟨mem_T 3 206 rfl rfl, mem_T 1 4 rfl rfl, ⟨by decide +kernel, by decide +kernel, by decide +kernel⟩, by decide⟩
theorem kv_X8_standTogether : KS mX8_standTogether 2 := ⟨km_X8_standTogether, mem_T 3 205 rfl rfl⟩
abbrev mX8_addToken : Mu := (yX8_addToken, cX8_addToken, 4, none)
theorem km_X8_addToken : KM mX8_addToken 1 := ⟨mem_T 3 216 rfl rfl, mem_T 1 4 rfl rfl, ⟨by decide +kernel, by decide +kernel, by decide +kernel⟩, by decide⟩
theorem kv_X8_addToken : KV mX8_addToken 1 := ⟨km_X8_addToken, mem_T 3 215 rfl rfl, mem_TS 2 (by decide +kernel) rfl⟩
abbrev mX8_addNumber : Mu := (yX8_addNumber, cX8_addNumber, 4, none)
theorem km_X8_addNumber : KM mX8_addNumber 2 := ⟨mem_T 4 29 rfl rfl, mem_T 1 4 rfl rfl, ⟨by decide +kernel, by decide +kernel, by decide +kernel⟩, by decide⟩
theorem kv_X8_addNumber : KV mX8_addNumber 2 := ⟨km_X8_addNumber, mem_T 4 28 rfl rfl, mem_TS 5 (by decide +kernel) rfl⟩
abbrev mX8_keyword : Mu := (yX8_keyword, cX8_keyword, 4, (some .int))
theorem km_X8_keyword : KM mX8_keyword 2 := ⟨mem_T 3 220 rfl rfl, mem_T 1 4 rfl rfl, ⟨by decide +kernel, by decide +kernel, by decide +kernel⟩, by decide⟩
theorem kv_X8_keyword : KV mX8_keyword 2 := ⟨km_X8_keyword, mem_T 3 219 rfl rfl, mem_TS 3 (by decide +kernel) rfl⟩
abbrev mX8_isWord : Mu := (yX8_isWord, cX8_isWord, 6, (some .boolean))
theorem km_X8_isWord : KM mX8_isWord 3 := ⟨mem_T 3 224 rfl rfl, mem_T 1 4 rfl rfl, ⟨by decide +kernel, by decide +kernel, by decide +kernel⟩, by decide⟩
theorem kv_X8_isWord : KV mX8_isWord 3 := ⟨km_X8_isWord, mem_T 3 223 rfl rfl, mem_TS 4 (by decide +kernel) rfl⟩
abbrev mX9_init : Mu := (yX9_init, cX9_init, 1, none)
theorem km_X9_init : KM mX9_init 0 := ⟨mem_T 2 231 rfl rfl, mem_T 1 12 rfl rfl, ⟨by decide +kernel, by decide +kernel, by decide +kernel⟩, by decide⟩
theorem kv_X9_init : KI mX9_init 0 := ⟨km_X9_init, mem_T 2 230 rfl rfl, rfl, rfl⟩
abbrev mX9_addClause : Mu := (yX9_addClause, cX9_addClause, 5, (some .int))
theorem km_X9_addClause : KM mX9_addClause 3 := ⟨mem_T 5 228 rfl rfl, mem_T 1 12 rfl rfl, ⟨by decide +kernel, by decide +kernel, by decide +kernel⟩, by decide⟩
theorem kv_X9_addClause : KV mX9_addClause 3 := ⟨km_X9_addClause, mem_T 5 226 rfl rfl, mem_T 5 227 rfl rfl⟩
abbrev mX9_insist : Mu := (yX9_insist, cX9_insist, 3, (some .boolean))
theorem km_X9_insist : KM mX9_insist 2 := ⟨mem_T 5 237 rfl rfl, mem_T 1 12 rfl rfl, ⟨by decide +kernel, by decide +kernel, by decide +kernel⟩, by decide⟩
theorem kv_X9_insist : KV mX9_insist 2 := ⟨km_X9_insist, mem_T 5 235 rfl rfl, mem_T 5 236 rfl rfl⟩
abbrev mX9_worthTo : Mu := (yX9_worthTo, cX9_worthTo, 5, (some .int))
theorem km_X9_worthTo : KM mX9_worthTo 2 := ⟨mem_T 6 13 rfl rfl, mem_T 1 12 rfl rfl, ⟨by decide +kernel, by decide +kernel, by decide +kernel⟩, by decide⟩
theorem kv_X9_worthTo : KV mX9_worthTo 2 := ⟨km_X9_worthTo, mem_T 6 11 rfl rfl, mem_T 6 12 rfl rfl⟩
abbrev mX9_bargain : Mu := (yX9_bargain, cX9_bargain, 4, none)
theorem km_X9_bargain : KM mX9_bargain 0 := ⟨mem_T 6 5 rfl rfl, mem_T 1 12 rfl rfl, ⟨by decide +kernel, by decide +kernel, by decide +kernel⟩, by decide⟩
theorem kv_X9_bargain : KV mX9_bargain 0 := ⟨km_X9_bargain, mem_T 6 3 rfl rfl, mem_T 6 4 rfl rfl⟩
abbrev mX9_signers : Mu := (yX9_signers, cX9_signers, 4, (some .int))
theorem km_X9_signers : KM mX9_signers 1 := ⟨mem_T 6 9 rfl rfl, mem_T 1 12 rfl rfl, ⟨by decide +kernel, by decide +kernel, by decide +kernel⟩, by decide⟩
theorem kv_X9_signers : KV mX9_signers 1 := ⟨km_X9_signers, mem_T 6 8 rfl rfl, mem_TS 38 (by decide +kernel) rfl⟩
abbrev mX9_offer : Mu := (yX9_offer, cX9_offer, 3, none)
theorem km_X9_offer : KM mX9_offer 1 := ⟨mem_T 6 18 rfl rfl, mem_T 1 12 rfl rfl, ⟨by decide +kernel, by decide +kernel, by decide +kernel⟩, by decide⟩
theorem kv_X9_offer : KV mX9_offer 1 := ⟨km_X9_offer, mem_T 6 17 rfl rfl, mem_TS 39 (by decide +kernel) rfl⟩
abbrev mX9_outOf : Mu := (yX9_outOf, cX9_outOf, 2, (some .int))
theorem km_X9_outOf : KM mX9_outOf 1 := ⟨mem_T 6 21 rfl rfl, mem_T 1 12 rfl rfl, ⟨by decide +kernel, by decide +kernel, by decide +kernel⟩, by decide⟩
theorem kv_X9_outOf : KS mX9_outOf 1 := ⟨km_X9_outOf, mem_T 6 20 rfl rfl⟩
abbrev mX10_init : Mu := (yX10_init, cX10_init, 3, none)
theorem km_X10_init : KM mX10_init 1 := ⟨mem_T 2 170 rfl rfl, mem_T 1 10 rfl rfl, ⟨by decide +kernel, by decide +kernel, by decide +kernel⟩, by decide⟩
theorem kv_X10_init : KI mX10_init 1 := ⟨km_X10_init, mem_T 2 169 rfl rfl, rfl, rfl⟩
abbrev mX10_demand : Mu := (yX10_demand, cX10_demand, 4, (some .boolean))
theorem km_X10_demand : KM mX10_demand 3 := ⟨mem_T 5 138 rfl rfl, mem_T 1 10 rfl rfl, ⟨by decide +kernel, by decide +kernel, by decide +kernel⟩, by decide⟩
theorem kv_X10_demand : KV mX10_demand 3 := ⟨km_X10_demand, mem_T 5 136 rfl rfl, mem_T 5 137 rfl rfl⟩
abbrev mX10_order : Mu := (yX10_order, cX10_order, 9, (some .int))
theorem km_X10_order : KM mX10_order 2 := ⟨mem_T 5 148 rfl rfl, mem_T 1 10 rfl rfl, ⟨by decide +kernel, by decide +kernel, by decide +kernel⟩, by decide⟩
theorem kv_X10_order : KV mX10_order 2 := ⟨km_X10_order, mem_T 5 146 rfl rfl, mem_T 5 147 rfl rfl⟩
abbrev mX10_enlist : Mu := (yX10_enlist, cX10_enlist, 3, none)
theorem km_X10_enlist : KM mX10_enlist 1 := ⟨mem_T 5 153 rfl rfl, mem_T 1 10 rfl rfl, ⟨by decide +kernel, by decide +kernel, by decide +kernel⟩, by decide⟩
theorem kv_X10_enlist : KV mX10_enlist 1 := ⟨km_X10_enlist, mem_T 5 152 rfl rfl, mem_TS 30 (by decide +kernel) rfl⟩
abbrev mX10_fill : Mu := (yX10_fill, cX10_fill, 4, none)
theorem km_X10_fill : KM mX10_fill 0 := ⟨mem_T 5 158 rfl rfl, mem_T 1 10 rfl rfl, ⟨by decide +kernel, by decide +kernel, by decide +kernel⟩, by decide⟩
theorem kv_X10_fill : KV mX10_fill 0 := ⟨km_X10_fill, mem_T 5 157 rfl rfl, mem_TS 31 (by decide +kernel) rfl⟩
abbrev mX10_lastOf : Mu := (yX10_lastOf, cX10_lastOf, 4, (some .int))
theorem km_X10_lastOf : KM mX10_lastOf 1 := ⟨mem_T 5 162 rfl rfl, mem_T 1 10 rfl rfl, ⟨by decide +kernel, by decide +kernel, by decide +kernel⟩, by decide⟩
theorem kv_X10_lastOf : KV mX10_lastOf 1 := ⟨km_X10_lastOf, mem_T 5 161 rfl rfl, mem_TS 32 (by decide +kernel) rfl⟩
abbrev mX10_after : Mu := (yX10_after, cX10_after, 7, (some .int))
theorem km_X10_after : KM mX10_after 3 := ⟨mem_T 5 170 rfl rfl, mem_T 1 10 rfl rfl, ⟨by decide +kernel, by decide +kernel, by decide +kernel⟩, by decide⟩
theorem kv_X10_after : KV mX10_after 3 := ⟨km_X10_after, mem_T 5 169 rfl rfl, mem_TS 34 (by decide +kernel) rfl⟩
abbrev mX10_next : Mu := (yX10_next, cX10_next, 7, (some .int))
theorem km_X10_next : KM mX10_next 2 := ⟨mem_T 5 166 rfl rfl, mem_T 1 10 rfl rfl, ⟨by decide +kernel, by decide +kernel, by decide +kernel⟩, by decide⟩
theorem kv_X10_next : KV mX10_next 2 := ⟨km_X10_next, mem_T 5 165 rfl rfl, mem_TS 33 (by decide +kernel) rfl⟩
abbrev mX11_init : Mu := (yX11_init, cX11_init, 1, none)
theorem km_X11_init : KM mX11_init 0 := ⟨mem_T 1 25 rfl rfl, mem_T 1 1 rfl rfl, ⟨by decide +kernel, by decide +kernel, by decide +kernel⟩, by decide⟩
theorem kv_X11_init : KI mX11_init 0 := ⟨km_X11_init, mem_T 1 24 rfl rfl, rfl, rfl⟩
abbrev mX11_picture : Mu := (yX11_picture, cX11_picture, 6, (some .int))
theorem km_X11_picture : KM mX11_picture 5 := ⟨mem_T 3 53 rfl rfl, mem_T 1 1 rfl rfl, ⟨by decide +kernel, by decide +kernel, by decide +kernel⟩, by decide⟩
theorem kv_X11_picture : KV mX11_picture 5 := ⟨km_X11_picture, mem_T 3 51 rfl rfl, mem_T 3 52 rfl rfl⟩
abbrev mX11_print : Mu := (yX11_print, cX11_print, 2, (some .int))
theorem km_X11_print : KM mX11_print 1 := ⟨mem_T 3 64 rfl rfl, mem_T 1 1 rfl rfl, ⟨by decide +kernel, by decide +kernel, by decide +kernel⟩, by decide⟩
theorem kv_X11_print : KV mX11_print 1 := ⟨km_X11_print, mem_T 3 62 rfl rfl, mem_T 3 63 rfl rfl⟩
abbrev mX11_event : Mu := (yX11_event, cX11_event, 5, (some .int))
theorem km_X11_event : KM mX11_event 4 := ⟨mem_T 3 76 rfl rfl, mem_T 1 1 rfl rfl, ⟨by decide +kernel, by decide +kernel, by decide +kernel⟩, by decide⟩
theorem kv_X11_event : KV mX11_event 4 := ⟨km_X11_event, mem_T 3 74 rfl rfl, mem_T 3 75 rfl rfl⟩
abbrev mX11_lead : Mu := (yX11_lead, cX11_lead, 4, (some .int))
theorem km_X11_lead : KM mX11_lead 3 := ⟨mem_T 3 95 rfl rfl, mem_T 1 1 rfl rfl, ⟨by decide +kernel, by decide +kernel, by decide +kernel⟩, by decide⟩
theorem kv_X11_lead : KV mX11_lead 3 := ⟨km_X11_lead, mem_T 3 93 rfl rfl, mem_T 3 94 rfl rfl⟩
abbrev mX11_off : Mu := (yX11_off, cX11_off, 3, (some .int))
theorem km_X11_off : KM mX11_off 2 := ⟨mem_T 3 105 rfl rfl, mem_T 1 1 rfl rfl, ⟨by decide +kernel, by decide +kernel, by decide +kernel⟩, by decide⟩
theorem kv_X11_off : KV mX11_off 2 := ⟨km_X11_off, mem_T 3 103 rfl rfl, mem_T 3 104 rfl rfl⟩
abbrev mX11_hall : Mu := (yX11_hall, cX11_hall, 5, (some .int))
theorem km_X11_hall : KM mX11_hall 4 := ⟨mem_T 3 119 rfl rfl, mem_T 1 1 rfl rfl, ⟨by decide +kernel, by decide +kernel, by decide +kernel⟩, by decide⟩
theorem kv_X11_hall : KV mX11_hall 4 := ⟨km_X11_hall, mem_T 3 117 rfl rfl, mem_T 3 118 rfl rfl⟩
abbrev mX11_asks : Mu := (yX11_asks, cX11_asks, 4, (some .boolean))
theorem km_X11_asks : KM mX11_asks 3 := ⟨mem_T 3 131 rfl rfl, mem_T 1 1 rfl rfl, ⟨by decide +kernel, by decide +kernel, by decide +kernel⟩, by decide⟩
theorem kv_X11_asks : KV mX11_asks 3 := ⟨km_X11_asks, mem_T 3 129 rfl rfl, mem_T 3 130 rfl rfl⟩
abbrev mX11_set : Mu := (yX11_set, cX11_set, 4, (some .int))
theorem km_X11_set : KM mX11_set 3 := ⟨mem_T 3 143 rfl rfl, mem_T 1 1 rfl rfl, ⟨by decide +kernel, by decide +kernel, by decide +kernel⟩, by decide⟩
theorem kv_X11_set : KV mX11_set 3 := ⟨km_X11_set, mem_T 3 141 rfl rfl, mem_T 3 142 rfl rfl⟩
abbrev mX11_hire : Mu := (yX11_hire, cX11_hire, 3, (some .boolean))
theorem km_X11_hire : KM mX11_hire 2 := ⟨mem_T 3 151 rfl rfl, mem_T 1 1 rfl rfl, ⟨by decide +kernel, by decide +kernel, by decide +kernel⟩, by decide⟩
theorem kv_X11_hire : KV mX11_hire 2 := ⟨km_X11_hire, mem_T 3 149 rfl rfl, mem_T 3 150 rfl rfl⟩
abbrev mX11_book : Mu := (yX11_book, cX11_book, 3, (some .boolean))
theorem km_X11_book : KM mX11_book 2 := ⟨mem_T 3 166 rfl rfl, mem_T 1 1 rfl rfl, ⟨by decide +kernel, by decide +kernel, by decide +kernel⟩, by decide⟩
theorem kv_X11_book : KV mX11_book 2 := ⟨km_X11_book, mem_T 3 164 rfl rfl, mem_T 3 165 rfl rfl⟩
abbrev mX11_feed : Mu := (yX11_feed, cX11_feed, 6, (some .int))
theorem km_X11_feed : KM mX11_feed 5 := ⟨mem_T 3 170 rfl rfl, mem_T 1 1 rfl rfl, ⟨by decide +kernel, by decide +kernel, by decide +kernel⟩, by decide⟩
theorem kv_X11_feed : KV mX11_feed 5 := ⟨km_X11_feed, mem_T 3 168 rfl rfl, mem_T 3 169 rfl rfl⟩
abbrev mX11_end : Mu := (yX11_end, cX11_end, 2, (some .boolean))
theorem km_X11_end : KM mX11_end 1 := ⟨mem_T 3 182 rfl rfl, mem_T 1 1 rfl rfl, ⟨by decide +kernel, by decide +kernel, by decide +kernel⟩, by decide⟩
theorem kv_X11_end : KV mX11_end 1 := ⟨km_X11_end, mem_T 3 180 rfl rfl, mem_T 3 181 rfl rfl⟩
abbrev mX11_rules : Mu := (yX11_rules, cX11_rules, 3, (some .int))
theorem km_X11_rules : KM mX11_rules 1 := ⟨mem_T 3 191 rfl rfl, mem_T 1 1 rfl rfl, ⟨by decide +kernel, by decide +kernel, by decide +kernel⟩, by decide⟩
theorem kv_X11_rules : KV mX11_rules 1 := ⟨km_X11_rules, mem_T 3 189 rfl rfl, mem_T 3 190 rfl rfl⟩
abbrev mX11_fault : Mu := (yX11_fault, cX11_fault, 2, (some .int))
theorem km_X11_fault : KM mX11_fault 1 := ⟨mem_T 4 154 rfl rfl, mem_T 1 1 rfl rfl, ⟨by decide +kernel, by decide +kernel, by decide +kernel⟩, by decide⟩
theorem kv_X11_fault : KV mX11_fault 1 := ⟨km_X11_fault, mem_T 4 152 rfl rfl, mem_T 4 153 rfl rfl⟩
abbrev mX11_runs : Mu := (yX11_runs, cX11_runs, 4, (some .int))
theorem km_X11_runs : KM mX11_runs 3 := ⟨mem_T 4 158 rfl rfl, mem_T 1 1 rfl rfl, ⟨by decide +kernel, by decide +kernel, by decide +kernel⟩, by decide⟩
theorem kv_X11_runs : KV mX11_runs 3 := ⟨km_X11_runs, mem_T 4 156 rfl rfl, mem_T 4 157 rfl rfl⟩
abbrev mX11_crowd : Mu := (yX11_crowd, cX11_crowd, 6, (some .int))
theorem km_X11_crowd : KM mX11_crowd 5 := ⟨mem_T 4 206 rfl rfl, mem_T 1 1 rfl rfl, ⟨by decide +kernel, by decide +kernel, by decide +kernel⟩, by decide⟩
theorem kv_X11_crowd : KV mX11_crowd 5 := ⟨km_X11_crowd, mem_T 4 204 rfl rfl, mem_T 4 205 rfl rfl⟩
abbrev mX11_worth : Mu := (yX11_worth, cX11_worth, 3, (some .int))
theorem km_X11_worth : KM mX11_worth 2 := ⟨mem_T 4 215 rfl rfl, mem_T 1 1 rfl rfl, ⟨by decide +kernel, by decide +kernel, by decide +kernel⟩, by decide⟩
theorem kv_X11_worth : KV mX11_worth 2 := ⟨km_X11_worth, mem_T 4 213 rfl rfl, mem_T 4 214 rfl rfl⟩
abbrev mX11_heard : Mu := (yX11_heard, cX11_heard, 3, (some .int))
theorem km_X11_heard : KM mX11_heard 2 := ⟨mem_T 4 235 rfl rfl, mem_T 1 1 rfl rfl, ⟨by decide +kernel, by decide +kernel, by decide +kernel⟩, by decide⟩
theorem kv_X11_heard : KV mX11_heard 2 := ⟨km_X11_heard, mem_T 4 233 rfl rfl, mem_T 4 234 rfl rfl⟩
abbrev mX11_weeks : Mu := (yX11_weeks, cX11_weeks, 3, (some .int))
theorem km_X11_weeks : KM mX11_weeks 1 := ⟨mem_T 5 0 rfl rfl, mem_T 1 1 rfl rfl, ⟨by decide +kernel, by decide +kernel, by decide +kernel⟩, by decide⟩
theorem kv_X11_weeks : KV mX11_weeks 1 := ⟨km_X11_weeks, mem_T 4 238 rfl rfl, mem_T 4 239 rfl rfl⟩
abbrev mX11_of : Mu := (yX11_of, cX11_of, 3, (some .long))
theorem km_X11_of : KM mX11_of 2 := ⟨mem_T 5 37 rfl rfl, mem_T 1 1 rfl rfl, ⟨by decide +kernel, by decide +kernel, by decide +kernel⟩, by decide⟩
theorem kv_X11_of : KV mX11_of 2 := ⟨km_X11_of, mem_T 5 35 rfl rfl, mem_T 5 36 rfl rfl⟩
abbrev mX11_at : Mu := (yX11_at, cX11_at, 3, (some .int))
theorem km_X11_at : KM mX11_at 2 := ⟨mem_T 5 46 rfl rfl, mem_T 1 1 rfl rfl, ⟨by decide +kernel, by decide +kernel, by decide +kernel⟩, by decide⟩
theorem kv_X11_at : KV mX11_at 2 := ⟨km_X11_at, mem_T 5 44 rfl rfl, mem_T 5 45 rfl rfl⟩
abbrev mX11_version : Mu := (yX11_version, cX11_version, 2, (some .int))
theorem km_X11_version : KM mX11_version 1 := ⟨mem_T 5 54 rfl rfl, mem_T 1 1 rfl rfl, ⟨by decide +kernel, by decide +kernel, by decide +kernel⟩, by decide⟩
theorem kv_X11_version : KV mX11_version 1 := ⟨km_X11_version, mem_T 5 52 rfl rfl, mem_T 5 53 rfl rfl⟩
abbrev mX11_change : Mu := (yX11_change, cX11_change, 4, (some .boolean))
theorem km_X11_change : KM mX11_change 3 := ⟨mem_T 5 63 rfl rfl, mem_T 1 1 rfl rfl, ⟨by decide +kernel, by decide +kernel, by decide +kernel⟩, by decide⟩
theorem kv_X11_change : KV mX11_change 3 := ⟨km_X11_change, mem_T 5 61 rfl rfl, mem_T 5 62 rfl rfl⟩
abbrev mX11_stage : Mu := (yX11_stage, cX11_stage, 3, (some .int))
theorem km_X11_stage : KM mX11_stage 2 := ⟨mem_T 5 75 rfl rfl, mem_T 1 1 rfl rfl, ⟨by decide +kernel, by decide +kernel, by decide +kernel⟩, by decide⟩
theorem kv_X11_stage : KV mX11_stage 2 := ⟨km_X11_stage, mem_T 5 73 rfl rfl, mem_T 5 74 rfl rfl⟩
abbrev mX11_person : Mu := (yX11_person, cX11_person, 3, (some .int))
theorem km_X11_person : KM mX11_person 2 := ⟨mem_T 5 106 rfl rfl, mem_T 1 1 rfl rfl, ⟨by decide +kernel, by decide +kernel, by decide +kernel⟩, by decide⟩
theorem kv_X11_person : KV mX11_person 2 := ⟨km_X11_person, mem_T 5 104 rfl rfl, mem_T 5 105 rfl rfl⟩
abbrev mX11_faces : Mu := (yX11_faces, cX11_faces, 4, (some .int))
theorem km_X11_faces : KM mX11_faces 3 := ⟨mem_T 5 114 rfl rfl, mem_T 1 1 rfl rfl, ⟨by decide +kernel, by decide +kernel, by decide +kernel⟩, by decide⟩
theorem kv_X11_faces : KV mX11_faces 3 := ⟨km_X11_faces, mem_T 5 112 rfl rfl, mem_T 5 113 rfl rfl⟩
abbrev mX11_needs : Mu := (yX11_needs, cX11_needs, 4, (some .boolean))
theorem km_X11_needs : KM mX11_needs 3 := ⟨mem_T 5 134 rfl rfl, mem_T 1 1 rfl rfl, ⟨by decide +kernel, by decide +kernel, by decide +kernel⟩, by decide⟩
theorem kv_X11_needs : KV mX11_needs 3 := ⟨km_X11_needs, mem_T 5 132 rfl rfl, mem_T 5 133 rfl rfl⟩
abbrev mX11_wire : Mu := (yX11_wire, cX11_wire, 3, (some .int))
theorem km_X11_wire : KM mX11_wire 2 := ⟨mem_T 5 144 rfl rfl, mem_T 1 1 rfl rfl, ⟨by decide +kernel, by decide +kernel, by decide +kernel⟩, by decide⟩
theorem kv_X11_wire : KV mX11_wire 2 := ⟨km_X11_wire, mem_T 5 142 rfl rfl, mem_T 5 143 rfl rfl⟩
abbrev mX11_owe : Mu := (yX11_owe, cX11_owe, 4, (some .boolean))
theorem km_X11_owe : KM mX11_owe 3 := ⟨mem_T 5 177 rfl rfl, mem_T 1 1 rfl rfl, ⟨by decide +kernel, by decide +kernel, by decide +kernel⟩, by decide⟩
theorem kv_X11_owe : KV mX11_owe 3 := ⟨km_X11_owe, mem_T 5 175 rfl rfl, mem_T 5 176 rfl rfl⟩
abbrev mX11_purse : Mu := (yX11_purse, cX11_purse, 3, (some .boolean))
theorem km_X11_purse : KM mX11_purse 2 := ⟨mem_T 5 187 rfl rfl, mem_T 1 1 rfl rfl, ⟨by decide +kernel, by decide +kernel, by decide +kernel⟩, by decide⟩
theorem kv_X11_purse : KV mX11_purse 2 := ⟨km_X11_purse, mem_T 5 185 rfl rfl, mem_T 5 186 rfl rfl⟩
abbrev mX11_clear : Mu := (yX11_clear, cX11_clear, 4, (some .long))
theorem km_X11_clear : KM mX11_clear 3 := ⟨mem_T 5 195 rfl rfl, mem_T 1 1 rfl rfl, ⟨by decide +kernel, by decide +kernel, by decide +kernel⟩, by decide⟩
theorem kv_X11_clear : KV mX11_clear 3 := ⟨km_X11_clear, mem_T 5 193 rfl rfl, mem_T 5 194 rfl rfl⟩
abbrev mX11_clause : Mu := (yX11_clause, cX11_clause, 4, (some .int))
theorem km_X11_clause : KM mX11_clause 3 := ⟨mem_T 5 224 rfl rfl, mem_T 1 1 rfl rfl, ⟨by decide +kernel, by decide +kernel, by decide +kernel⟩, by decide⟩
theorem kv_X11_clause : KV mX11_clause 3 := ⟨km_X11_clause, mem_T 5 222 rfl rfl, mem_T 5 223 rfl rfl⟩
abbrev mX11_stand : Mu := (yX11_stand, cX11_stand, 3, (some .boolean))
theorem km_X11_stand : KM mX11_stand 2 := ⟨mem_T 5 233 rfl rfl, mem_T 1 1 rfl rfl, ⟨by decide +kernel, by decide +kernel, by decide +kernel⟩, by decide⟩
theorem kv_X11_stand : KV mX11_stand 2 := ⟨km_X11_stand, mem_T 5 231 rfl rfl, mem_T 5 232 rfl rfl⟩
abbrev mX11_pool : Mu := (yX11_pool, cX11_pool, 2, (some .int))
theorem km_X11_pool : KM mX11_pool 1 := ⟨mem_T 6 1 rfl rfl, mem_T 1 1 rfl rfl, ⟨by decide +kernel, by decide +kernel, by decide +kernel⟩, by decide⟩
theorem kv_X11_pool : KV mX11_pool 1 := ⟨km_X11_pool, mem_T 5 239 rfl rfl, mem_T 6 0 rfl rfl⟩
abbrev mX11_look : Mu := (yX11_look, cX11_look, 2, (some .long))
theorem km_X11_look : KM mX11_look 1 := ⟨mem_T 6 27 rfl rfl, mem_T 1 1 rfl rfl, ⟨by decide +kernel, by decide +kernel, by decide +kernel⟩, by decide⟩
theorem kv_X11_look : KV mX11_look 1 := ⟨km_X11_look, mem_T 6 25 rfl rfl, mem_T 6 26 rfl rfl⟩
abbrev mX11_within : Mu := (yX11_within, cX11_within, 3, (some .boolean))
theorem km_X11_within : KM mX11_within 3 := ⟨mem_T 3 60 rfl rfl, mem_T 1 1 rfl rfl, ⟨by decide +kernel, by decide +kernel, by decide +kernel⟩, by decide⟩
theorem kv_X11_within : KS mX11_within 3 := ⟨km_X11_within, mem_T 3 59 rfl rfl⟩
abbrev mX11_has : Mu := (yX11_has, cX11_has, 2, (some .boolean))
theorem km_X11_has : KM mX11_has 2 := ⟨mem_T 4 202 rfl rfl, mem_T 1 1 rfl rfl, ⟨by decide +kernel, by decide +kernel, by decide +kernel⟩, by decide⟩
theorem kv_X11_has : KS mX11_has 2 := ⟨km_X11_has, mem_T 4 201 rfl rfl⟩
abbrev mX12_init : Mu := (yX12_init, cX12_init, 2, none)
theorem km_X12_init : KM mX12_init 0 := ⟨mem_T 6 48 rfl rfl, mem_T 1 13 rfl rfl, ⟨by decide +kernel, by decide +kernel, by decide +kernel⟩, by decide⟩
theorem kv_X12_init : KI mX12_init 0 := ⟨km_X12_init, mem_T 6 47 rfl rfl, rfl, rfl⟩
abbrev mX12_isIn : Mu := (yX12_isIn, cX12_isIn, 3, (some .boolean))
theorem km_X12_isIn : KM mX12_isIn 3 := ⟨mem_T 7 111 rfl rfl, mem_T 1 13 rfl rfl, ⟨by decide +kernel, by decide +kernel, by decide +kernel⟩, by decide⟩
theorem kv_X12_isIn : KS mX12_isIn 3 := ⟨km_X12_isIn, mem_T 7 110 rfl rfl⟩
abbrev mX12_isPicture : Mu := (yX12_isPicture, cX12_isPicture, 2, (some .boolean))
theorem km_X12_isPicture : KM mX12_isPicture 1 := ⟨mem_T 7 119 rfl rfl, mem_T 1 13 rfl rfl, ⟨by decide +kernel, by decide +kernel, by decide +kernel⟩, by decide⟩
theorem kv_X12_isPicture : KV mX12_isPicture 1 := ⟨km_X12_isPicture, mem_T 7 118 rfl rfl, mem_TS 40 (by decide +kernel) rfl⟩
abbrev mX12_isPrint : Mu := (yX12_isPrint, cX12_isPrint, 2, (some .boolean))
theorem km_X12_isPrint : KM mX12_isPrint 1 := ⟨mem_T 7 127 rfl rfl, mem_T 1 13 rfl rfl, ⟨by decide +kernel, by decide +kernel, by decide +kernel⟩, by decide⟩
theorem kv_X12_isPrint : KV mX12_isPrint 1 := ⟨km_X12_isPrint, mem_T 7 126 rfl rfl, mem_TS 41 (by decide +kernel) rfl⟩
abbrev mX12_isHall : Mu := (yX12_isHall, cX12_isHall, 2, (some .boolean))
theorem km_X12_isHall : KM mX12_isHall 1 := ⟨mem_T 7 158 rfl rfl, mem_T 1 13 rfl rfl, ⟨by decide +kernel, by decide +kernel, by decide +kernel⟩, by decide⟩
theorem kv_X12_isHall : KV mX12_isHall 1 := ⟨km_X12_isHall, mem_T 7 157 rfl rfl, mem_TS 44 (by decide +kernel) rfl⟩
abbrev mX12_isSet : Mu := (yX12_isSet, cX12_isSet, 2, (some .boolean))
theorem km_X12_isSet : KM mX12_isSet 1 := ⟨mem_T 7 170 rfl rfl, mem_T 1 13 rfl rfl, ⟨by decide +kernel, by decide +kernel, by decide +kernel⟩, by decide⟩
theorem kv_X12_isSet : KV mX12_isSet 1 := ⟨km_X12_isSet, mem_T 7 169 rfl rfl, mem_TS 45 (by decide +kernel) rfl⟩
abbrev mX12_isCrowd : Mu := (yX12_isCrowd, cX12_isCrowd, 2, (some .boolean))
theorem km_X12_isCrowd : KM mX12_isCrowd 1 := ⟨mem_T 8 83 rfl rfl, mem_T 1 13 rfl rfl, ⟨by decide +kernel, by decide +kernel, by decide +kernel⟩, by decide⟩
theorem kv_X12_isCrowd : KV mX12_isCrowd 1 := ⟨km_X12_isCrowd, mem_T 8 82 rfl rfl, mem_TS 68 (by decide +kernel) rfl⟩
abbrev mX12_picture : Mu := (yX12_picture, cX12_picture, 6, (some .int))
theorem km_X12_picture : KM mX12_picture 5 := ⟨mem_T 7 108 rfl rfl, mem_T 1 13 rfl rfl, ⟨by decide +kernel, by decide +kernel, by decide +kernel⟩, by decide⟩
theorem kv_X12_picture : KV mX12_picture 5 := ⟨km_X12_picture, mem_T 7 106 rfl rfl, mem_T 7 107 rfl rfl⟩
abbrev mX12_print : Mu := (yX12_print, cX12_print, 2, (some .int))
theorem km_X12_print : KM mX12_print 1 := ⟨mem_T 7 115 rfl rfl, mem_T 1 13 rfl rfl, ⟨by decide +kernel, by decide +kernel, by decide +kernel⟩, by decide⟩
theorem kv_X12_print : KV mX12_print 1 := ⟨km_X12_print, mem_T 7 113 rfl rfl, mem_T 7 114 rfl rfl⟩
abbrev mX12_canBe : Mu := (yX12_canBe, cX12_canBe, 2, (some .boolean))
theorem km_X12_canBe : KM mX12_canBe 2 := ⟨mem_T 7 130 rfl rfl, mem_T 1 13 rfl rfl, ⟨by decide +kernel, by decide +kernel, by decide +kernel⟩, by decide⟩
theorem kv_X12_canBe : KS mX12_canBe 2 := ⟨km_X12_canBe, mem_T 7 129 rfl rfl⟩
abbrev mX12_event : Mu := (yX12_event, cX12_event, 5, (some .int))
theorem km_X12_event : KM mX12_event 4 := ⟨mem_T 7 123 rfl rfl, mem_T 1 13 rfl rfl, ⟨by decide +kernel, by decide +kernel, by decide +kernel⟩, by decide⟩
theorem kv_X12_event : KV mX12_event 4 := ⟨km_X12_event, mem_T 7 121 rfl rfl, mem_T 7 122 rfl rfl⟩
abbrev mX12_leadOf : Mu := (yX12_leadOf, cX12_leadOf, 8, (some .int))
theorem km_X12_leadOf : KM mX12_leadOf 3 := ⟨mem_T 7 138 rfl rfl, mem_T 1 13 rfl rfl, ⟨by decide +kernel, by decide +kernel, by decide +kernel⟩, by decide⟩
theorem kv_X12_leadOf : KV mX12_leadOf 3 := ⟨km_X12_leadOf, mem_T 7 137 rfl rfl, mem_TS 42 (by decide +kernel) rfl⟩
abbrev mX12_lead : Mu := (yX12_lead, cX12_lead, 4, (some .int))
theorem km_X12_lead : KM mX12_lead 3 := ⟨mem_T 7 134 rfl rfl, mem_T 1 13 rfl rfl, ⟨by decide +kernel, by decide +kernel, by decide +kernel⟩, by decide⟩
theorem kv_X12_lead : KV mX12_lead 3 := ⟨km_X12_lead, mem_T 7 132 rfl rfl, mem_T 7 133 rfl rfl⟩
abbrev mX12_offOf : Mu := (yX12_offOf, cX12_offOf, 7, (some .int))
theorem km_X12_offOf : KM mX12_offOf 2 := ⟨mem_T 7 146 rfl rfl, mem_T 1 13 rfl rfl, ⟨by decide +kernel, by decide +kernel, by decide +kernel⟩, by decide⟩
theorem kv_X12_offOf : KV mX12_offOf 2 := ⟨km_X12_offOf, mem_T 7 145 rfl rfl, mem_TS 43 (by decide +kernel) rfl⟩
abbrev mX12_off : Mu := (yX12_off, cX12_off, 3, (some .int))
theorem km_X12_off : KM mX12_off 2 := ⟨mem_T 7 142 rfl rfl, mem_T 1 13 rfl rfl, ⟨by decide +kernel, by decide +kernel, by decide +kernel⟩, by decide⟩
theorem kv_X12_off : KV mX12_off 2 := ⟨km_X12_off, mem_T 7 140 rfl rfl, mem_T 7 141 rfl rfl⟩
abbrev mX12_hall : Mu := (yX12_hall, cX12_hall, 5, (some .int))
theorem km_X12_hall : KM mX12_hall 4 := ⟨mem_T 7 150 rfl rfl, mem_T 1 13 rfl rfl, ⟨by decide +kernel, by decide +kernel, by decide +kernel⟩, by decide⟩
theorem kv_X12_hall : KV mX12_hall 4 := ⟨km_X12_hall, mem_T 7 148 rfl rfl, mem_T 7 149 rfl rfl⟩
abbrev mX12_asks : Mu := (yX12_asks, cX12_asks, 4, (some .boolean))
theorem km_X12_asks : KM mX12_asks 3 := ⟨mem_T 7 154 rfl rfl, mem_T 1 13 rfl rfl, ⟨by decide +kernel, by decide +kernel, by decide +kernel⟩, by decide⟩
theorem kv_X12_asks : KV mX12_asks 3 := ⟨km_X12_asks, mem_T 7 152 rfl rfl, mem_T 7 153 rfl rfl⟩
abbrev mX12_set : Mu := (yX12_set, cX12_set, 4, (some .int))
theorem km_X12_set : KM mX12_set 3 := ⟨mem_T 7 162 rfl rfl, mem_T 1 13 rfl rfl, ⟨by decide +kernel, by decide +kernel, by decide +kernel⟩, by decide⟩
theorem kv_X12_set : KV mX12_set 3 := ⟨km_X12_set, mem_T 7 160 rfl rfl, mem_T 7 161 rfl rfl⟩
abbrev mX12_setIn : Mu := (yX12_setIn, cX12_setIn, 3, (some .int))
theorem km_X12_setIn : KM mX12_setIn 1 := ⟨mem_T 7 174 rfl rfl, mem_T 1 13 rfl rfl, ⟨by decide +kernel, by decide +kernel, by decide +kernel⟩, by decide⟩
theorem kv_X12_setIn : KV mX12_setIn 1 := ⟨km_X12_setIn, mem_T 7 173 rfl rfl, mem_TS 46 (by decide +kernel) rfl⟩
abbrev mX12_printIn : Mu := (yX12_printIn, cX12_printIn, 3, (some .int))
theorem km_X12_printIn : KM mX12_printIn 1 := ⟨mem_T 7 182 rfl rfl, mem_T 1 13 rfl rfl, ⟨by decide +kernel, by decide +kernel, by decide +kernel⟩, by decide⟩
theorem kv_X12_printIn : KV mX12_printIn 1 := ⟨km_X12_printIn, mem_T 7 181 rfl rfl, mem_TS 47 (by decide +kernel) rfl⟩
abbrev mX12_hire : Mu := (yX12_hire, cX12_hire, 3, (some .boolean))
theorem km_X12_hire : KM mX12_hire 2 := ⟨mem_T 7 166 rfl rfl, mem_T 1 13 rfl rfl, ⟨by decide +kernel, by decide +kernel, by decide +kernel⟩, by decide⟩
theorem kv_X12_hire : KV mX12_hire 2 := ⟨km_X12_hire, mem_T 7 164 rfl rfl, mem_T 7 165 rfl rfl⟩
abbrev mX12_book : Mu := (yX12_book, cX12_book, 3, (some .boolean))
theorem km_X12_book : KM mX12_book 2 := ⟨mem_T 7 178 rfl rfl, mem_T 1 13 rfl rfl, ⟨by decide +kernel, by decide +kernel, by decide +kernel⟩, by decide⟩
theorem kv_X12_book : KV mX12_book 2 := ⟨km_X12_book, mem_T 7 176 rfl rfl, mem_T 7 177 rfl rfl⟩
abbrev mX12_feed : Mu := (yX12_feed, cX12_feed, 8, (some .int))
theorem km_X12_feed : KM mX12_feed 5 := ⟨mem_T 7 186 rfl rfl, mem_T 1 13 rfl rfl, ⟨by decide +kernel, by decide +kernel, by decide +kernel⟩, by decide⟩
theorem kv_X12_feed : KV mX12_feed 5 := ⟨km_X12_feed, mem_T 7 184 rfl rfl, mem_T 7 185 rfl rfl⟩
abbrev mX12_end : Mu := (yX12_end, cX12_end, 2, (some .boolean))
theorem km_X12_end : KM mX12_end 1 := ⟨mem_T 7 190 rfl rfl, mem_T 1 13 rfl rfl, ⟨by decide +kernel, by decide +kernel, by decide +kernel⟩, by decide⟩
theorem kv_X12_end : KV mX12_end 1 := ⟨km_X12_end, mem_T 7 188 rfl rfl, mem_T 7 189 rfl rfl⟩
abbrev mX12_see : Mu := (yX12_see, cX12_see, 2, (some .int))
theorem km_X12_see : KM mX12_see 1 := ⟨mem_T 7 202 rfl rfl, mem_T 1 13 rfl rfl, ⟨by decide +kernel, by decide +kernel, by decide +kernel⟩, by decide⟩
theorem kv_X12_see : KV mX12_see 1 := ⟨km_X12_see, mem_T 7 201 rfl rfl, mem_TS 49 (by decide +kernel) rfl⟩
abbrev mX12_isLetter : Mu := (yX12_isLetter, cX12_isLetter, 1, (some .boolean))
theorem km_X12_isLetter : KM mX12_isLetter 1 := ⟨mem_T 7 205 rfl rfl, mem_T 1 13 rfl rfl, ⟨by decide +kernel, by decide +kernel, by decide +kernel⟩, by decide⟩
theorem kv_X12_isLetter : KS mX12_isLetter 1 := ⟨km_X12_isLetter, mem_T 7 204 rfl rfl⟩
abbrev mX12_isDigit : Mu := (yX12_isDigit, cX12_isDigit, 1, (some .boolean))
theorem km_X12_isDigit : KM mX12_isDigit 1 := ⟨mem_T 7 235 rfl rfl, mem_T 1 13 rfl rfl, ⟨by decide +kernel, by decide +kernel, by decide +kernel⟩, by decide⟩
theorem kv_X12_isDigit : KS mX12_isDigit 1 := ⟨km_X12_isDigit, mem_T 7 234 rfl rfl⟩
abbrev mX12_is : Mu := (yX12_is, cX12_is, 4, (some .boolean))
theorem km_X12_is : KM mX12_is 1 := ⟨mem_T 7 214 rfl rfl, mem_T 1 13 rfl rfl, ⟨by decide +kernel, by decide +kernel, by decide +kernel⟩, by decide⟩
theorem kv_X12_is : KV mX12_is 1 := ⟨km_X12_is, mem_T 7 213 rfl rfl, mem_TS 51 (by decide +kernel) rfl⟩
abbrev mX12_word : Mu := (yX12_word, cX12_word, 1, (some .int))
theorem km_X12_word : KM mX12_word 0 := ⟨mem_T 7 209 rfl rfl, mem_T 1 13 rfl rfl, ⟨by decide +kernel, by decide +kernel, by decide +kernel⟩, by decide⟩
theorem kv_X12_word : KV mX12_word 0 := ⟨km_X12_word, mem_T 7 208 rfl rfl, mem_TS 50 (by decide +kernel) rfl⟩
abbrev mX12_next0 : Mu := (yX12_next0, cX12_next0, 3, none)
theorem km_X12_next0 : KM mX12_next0 0 := ⟨mem_T 7 198 rfl rfl, mem_T 1 13 rfl rfl, ⟨by decide +kernel, by decide +kernel, by decide +kernel⟩, by decide⟩
theorem kv_X12_next0 : KV mX12_next0 0 := ⟨km_X12_next0, mem_T 7 197 rfl rfl, mem_TS 48 (by decide +kernel) rfl⟩
abbrev mX12_bad : Mu := (yX12_bad, cX12_bad, 2, (some .boolean))
theorem km_X12_bad : KM mX12_bad 1 := ⟨mem_T 8 3 rfl rfl, mem_T 1 13 rfl rfl, ⟨by decide +kernel, by decide +kernel, by decide +kernel⟩, by decide⟩
theorem kv_X12_bad : KV mX12_bad 1 := ⟨km_X12_bad, mem_T 8 2 rfl rfl, mem_TS 53 (by decide +kernel) rfl⟩
abbrev mX12_need : Mu := (yX12_need, cX12_need, 2, (some .boolean))
theorem km_X12_need : KM mX12_need 1 := ⟨mem_T 8 39 rfl rfl, mem_T 1 13 rfl rfl, ⟨by decide +kernel, by decide +kernel, by decide +kernel⟩, by decide⟩
theorem kv_X12_need : KV mX12_need 1 := ⟨km_X12_need, mem_T 8 38 rfl rfl, mem_TS 62 (by decide +kernel) rfl⟩
abbrev mX12_lay : Mu := (yX12_lay, cX12_lay, 3, none)
theorem km_X12_lay : KM mX12_lay 2 := ⟨mem_T 8 19 rfl rfl, mem_T 1 13 rfl rfl, ⟨by decide +kernel, by decide +kernel, by decide +kernel⟩, by decide⟩
theorem kv_X12_lay : KV mX12_lay 2 := ⟨km_X12_lay, mem_T 8 18 rfl rfl, mem_TS 57 (by decide +kernel) rfl⟩
abbrev mX12_opens : Mu := (yX12_opens, cX12_opens, 1, (some .boolean))
theorem km_X12_opens : KM mX12_opens 0 := ⟨mem_T 8 35 rfl rfl, mem_T 1 13 rfl rfl, ⟨by decide +kernel, by decide +kernel, by decide +kernel⟩, by decide⟩
theorem kv_X12_opens : KV mX12_opens 0 := ⟨km_X12_opens, mem_T 8 34 rfl rfl, mem_TS 61 (by decide +kernel) rfl⟩
abbrev mX12_sumUp : Mu := (yX12_sumUp, cX12_sumUp, 2, (some .boolean))
theorem km_X12_sumUp : KM mX12_sumUp 0 := ⟨mem_T 8 7 rfl rfl, mem_T 1 13 rfl rfl, ⟨by decide +kernel, by decide +kernel, by decide +kernel⟩, by decide⟩
theorem kv_X12_sumUp : KV mX12_sumUp 0 := ⟨km_X12_sumUp, mem_T 8 6 rfl rfl, mem_TS 54 (by decide +kernel) rfl⟩
abbrev mX12_product : Mu := (yX12_product, cX12_product, 2, (some .boolean))
theorem km_X12_product : KM mX12_product 0 := ⟨mem_T 8 11 rfl rfl, mem_T 1 13 rfl rfl, ⟨by decide +kernel, by decide +kernel, by decide +kernel⟩, by decide⟩
theorem kv_X12_product : KV mX12_product 0 := ⟨km_X12_product, mem_T 8 10 rfl rfl, mem_TS 55 (by decide +kernel) rfl⟩
abbrev mX12_unit : Mu := (yX12_unit, cX12_unit, 1, (some .boolean))
theorem km_X12_unit : KM mX12_unit 0 := ⟨mem_T 8 15 rfl rfl, mem_T 1 13 rfl rfl, ⟨by decide +kernel, by decide +kernel, by decide +kernel⟩, by decide⟩
theorem kv_X12_unit : KV mX12_unit 0 := ⟨km_X12_unit, mem_T 8 14 rfl rfl, mem_TS 56 (by decide +kernel) rfl⟩
abbrev mX12_any : Mu := (yX12_any, cX12_any, 1, (some .boolean))
theorem km_X12_any : KM mX12_any 0 := ⟨mem_T 8 23 rfl rfl, mem_T 1 13 rfl rfl, ⟨by decide +kernel, by decide +kernel, by decide +kernel⟩, by decide⟩
theorem kv_X12_any : KV mX12_any 0 := ⟨km_X12_any, mem_T 8 22 rfl rfl, mem_TS 58 (by decide +kernel) rfl⟩
abbrev mX12_every : Mu := (yX12_every, cX12_every, 1, (some .boolean))
theorem km_X12_every : KM mX12_every 0 := ⟨mem_T 8 27 rfl rfl, mem_T 1 13 rfl rfl, ⟨by decide +kernel, by decide +kernel, by decide +kernel⟩, by decide⟩
theorem kv_X12_every : KV mX12_every 0 := ⟨km_X12_every, mem_T 8 26 rfl rfl, mem_TS 59 (by decide +kernel) rfl⟩
abbrev mX12_one : Mu := (yX12_one, cX12_one, 2, (some .boolean))
theorem km_X12_one : KM mX12_one 0 := ⟨mem_T 8 31 rfl rfl, mem_T 1 13 rfl rfl, ⟨by decide +kernel, by decide +kernel, by decide +kernel⟩, by decide⟩
theorem kv_X12_one : KV mX12_one 0 := ⟨km_X12_one, mem_T 8 30 rfl rfl, mem_TS 60 (by decide +kernel) rfl⟩
abbrev mX12_aLine : Mu := (yX12_aLine, cX12_aLine, 2, (some .boolean))
theorem km_X12_aLine : KM mX12_aLine 0 := ⟨mem_T 7 239 rfl rfl, mem_T 1 13 rfl rfl, ⟨by decide +kernel, by decide +kernel, by decide +kernel⟩, by decide⟩
theorem kv_X12_aLine : KV mX12_aLine 0 := ⟨km_X12_aLine, mem_T 7 238 rfl rfl, mem_TS 52 (by decide +kernel) rfl⟩
abbrev mX12_rules : Mu := (yX12_rules, cX12_rules, 4, (some .int))
theorem km_X12_rules : KM mX12_rules 1 := ⟨mem_T 7 194 rfl rfl, mem_T 1 13 rfl rfl, ⟨by decide +kernel, by decide +kernel, by decide +kernel⟩, by decide⟩
theorem kv_X12_rules : KV mX12_rules 1 := ⟨km_X12_rules, mem_T 7 192 rfl rfl, mem_T 7 193 rfl rfl⟩
abbrev mX12_fault : Mu := (yX12_fault, cX12_fault, 2, (some .int))
theorem km_X12_fault : KM mX12_fault 1 := ⟨mem_T 8 43 rfl rfl, mem_T 1 13 rfl rfl, ⟨by decide +kernel, by decide +kernel, by decide +kernel⟩, by decide⟩
theorem kv_X12_fault : KV mX12_fault 1 := ⟨km_X12_fault, mem_T 8 41 rfl rfl, mem_T 8 42 rfl rfl⟩
abbrev mX12_both : Mu := (yX12_both, cX12_both, 3, (some .int))
theorem km_X12_both : KM mX12_both 3 := ⟨mem_T 8 66 rfl rfl, mem_T 1 13 rfl rfl, ⟨by decide +kernel, by decide +kernel, by decide +kernel⟩, by decide⟩
theorem kv_X12_both : KS mX12_both 3 := ⟨km_X12_both, mem_T 8 65 rfl rfl⟩
abbrev mX12_comesTo : Mu := (yX12_comesTo, cX12_comesTo, 8, (some .int))
theorem km_X12_comesTo : KM mX12_comesTo 3 := ⟨mem_T 8 63 rfl rfl, mem_T 1 13 rfl rfl, ⟨by decide +kernel, by decide +kernel, by decide +kernel⟩, by decide⟩
theorem kv_X12_comesTo : KV mX12_comesTo 3 := ⟨km_X12_comesTo, mem_T 8 62 rfl rfl, mem_TS 66 (by decide +kernel) rfl⟩
abbrev mX12_isSo : Mu := (yX12_isSo, cX12_isSo, 5, (some .boolean))
theorem km_X12_isSo : KM mX12_isSo 2 := ⟨mem_T 8 59 rfl rfl, mem_T 1 13 rfl rfl, ⟨by decide +kernel, by decide +kernel, by decide +kernel⟩, by decide⟩
theorem kv_X12_isSo : KV mX12_isSo 2 := ⟨km_X12_isSo, mem_T 8 58 rfl rfl, mem_TS 65 (by decide +kernel) rfl⟩
abbrev mX12_numberOf : Mu := (yX12_numberOf, cX12_numberOf, 3, (some .int))
theorem km_X12_numberOf : KM mX12_numberOf 2 := ⟨mem_T 8 70 rfl rfl, mem_T 1 13 rfl rfl, ⟨by decide +kernel, by decide +kernel, by decide +kernel⟩, by decide⟩
theorem kv_X12_numberOf : KV mX12_numberOf 2 := ⟨km_X12_numberOf, mem_T 8 69 rfl rfl, mem_TS 67 (by decide +kernel) rfl⟩
abbrev mX12_asksAll : Mu := (yX12_asksAll, cX12_asksAll, 10, none)
theorem km_X12_asksAll : KM mX12_asksAll 2 := ⟨mem_T 8 55 rfl rfl, mem_T 1 13 rfl rfl, ⟨by decide +kernel, by decide +kernel, by decide +kernel⟩, by decide⟩
theorem kv_X12_asksAll : KV mX12_asksAll 2 := ⟨km_X12_asksAll, mem_T 8 54 rfl rfl, mem_TS 64 (by decide +kernel) rfl⟩
abbrev mX12_whyNot : Mu := (yX12_whyNot, cX12_whyNot, 5, (some .int))
theorem km_X12_whyNot : KM mX12_whyNot 2 := ⟨mem_T 8 51 rfl rfl, mem_T 1 13 rfl rfl, ⟨by decide +kernel, by decide +kernel, by decide +kernel⟩, by decide⟩
theorem kv_X12_whyNot : KV mX12_whyNot 2 := ⟨km_X12_whyNot, mem_T 8 50 rfl rfl, mem_TS 63 (by decide +kernel) rfl⟩
abbrev mX12_runs : Mu := (yX12_runs, cX12_runs, 5, (some .int))
theorem km_X12_runs : KM mX12_runs 3 := ⟨mem_T 8 47 rfl rfl, mem_T 1 13 rfl rfl, ⟨by decide +kernel, by decide +kernel, by decide +kernel⟩, by decide⟩
theorem kv_X12_runs : KV mX12_runs 3 := ⟨km_X12_runs, mem_T 8 45 rfl rfl, mem_T 8 46 rfl rfl⟩
abbrev mX12_crowd : Mu := (yX12_crowd, cX12_crowd, 6, (some .int))
theorem km_X12_crowd : KM mX12_crowd 5 := ⟨mem_T 8 75 rfl rfl, mem_T 1 13 rfl rfl, ⟨by decide +kernel, by decide +kernel, by decide +kernel⟩, by decide⟩
theorem kv_X12_crowd : KV mX12_crowd 5 := ⟨km_X12_crowd, mem_T 8 73 rfl rfl, mem_T 8 74 rfl rfl⟩
abbrev mX12_worthOf : Mu := (yX12_worthOf, cX12_worthOf, 6, (some .int))
theorem km_X12_worthOf : KM mX12_worthOf 2 := ⟨mem_T 8 87 rfl rfl, mem_T 1 13 rfl rfl, ⟨by decide +kernel, by decide +kernel, by decide +kernel⟩, by decide⟩
theorem kv_X12_worthOf : KV mX12_worthOf 2 := ⟨km_X12_worthOf, mem_T 8 86 rfl rfl, mem_TS 69 (by decide +kernel) rfl⟩
abbrev mX12_worth : Mu := (yX12_worth, cX12_worth, 3, (some .int))
theorem km_X12_worth : KM mX12_worth 2 := ⟨mem_T 8 79 rfl rfl, mem_T 1 13 rfl rfl, ⟨by decide +kernel, by decide +kernel, by decide +kernel⟩, by decide⟩
theorem kv_X12_worth : KV mX12_worth 2 := ⟨km_X12_worth, mem_T 8 77 rfl rfl, mem_T 8 78 rfl rfl⟩
abbrev mX12_heard : Mu := (yX12_heard, cX12_heard, 3, (some .int))
theorem km_X12_heard : KM mX12_heard 2 := ⟨mem_T 8 91 rfl rfl, mem_T 1 13 rfl rfl, ⟨by decide +kernel, by decide +kernel, by decide +kernel⟩, by decide⟩
theorem kv_X12_heard : KV mX12_heard 2 := ⟨km_X12_heard, mem_T 8 89 rfl rfl, mem_T 8 90 rfl rfl⟩
abbrev mX12_choice : Mu := (yX12_choice, cX12_choice, 6, (some .int))
theorem km_X12_choice : KM mX12_choice 1 := ⟨mem_T 8 107 rfl rfl, mem_T 1 13 rfl rfl, ⟨by decide +kernel, by decide +kernel, by decide +kernel⟩, by decide⟩
theorem kv_X12_choice : KV mX12_choice 1 := ⟨km_X12_choice, mem_T 8 106 rfl rfl, mem_TS 72 (by decide +kernel) rfl⟩
abbrev mX12_goes : Mu := (yX12_goes, cX12_goes, 5, none)
theorem km_X12_goes : KM mX12_goes 0 := ⟨mem_T 8 103 rfl rfl, mem_T 1 13 rfl rfl, ⟨by decide +kernel, by decide +kernel, by decide +kernel⟩, by decide⟩
theorem kv_X12_goes : KV mX12_goes 0 := ⟨km_X12_goes, mem_T 8 102 rfl rfl, mem_TS 71 (by decide +kernel) rfl⟩
abbrev mX12_week : Mu := (yX12_week, cX12_week, 5, none)
theorem km_X12_week : KM mX12_week 0 := ⟨mem_T 8 99 rfl rfl, mem_T 1 13 rfl rfl, ⟨by decide +kernel, by decide +kernel, by decide +kernel⟩, by decide⟩
theorem kv_X12_week : KV mX12_week 0 := ⟨km_X12_week, mem_T 8 98 rfl rfl, mem_TS 70 (by decide +kernel) rfl⟩
abbrev mX12_words : Mu := (yX12_words, cX12_words, 6, none)
theorem km_X12_words : KM mX12_words 0 := ⟨mem_T 8 111 rfl rfl, mem_T 1 13 rfl rfl, ⟨by decide +kernel, by decide +kernel, by decide +kernel⟩, by decide⟩
theorem kv_X12_words : KV mX12_words 0 := ⟨km_X12_words, mem_T 8 110 rfl rfl, mem_TS 73 (by decide +kernel) rfl⟩
abbrev mX12_weeks : Mu := (yX12_weeks, cX12_weeks, 3, (some .int))
theorem km_X12_weeks : KM mX12_weeks 1 := ⟨mem_T 8 95 rfl rfl, mem_T 1 13 rfl rfl, ⟨by decide +kernel, by decide +kernel, by decide +kernel⟩, by decide⟩
theorem kv_X12_weeks : KV mX12_weeks 1 := ⟨km_X12_weeks, mem_T 8 93 rfl rfl, mem_T 8 94 rfl rfl⟩
abbrev mX12_of : Mu := (yX12_of, cX12_of, 3, (some .long))
theorem km_X12_of : KM mX12_of 2 := ⟨mem_T 8 115 rfl rfl, mem_T 1 13 rfl rfl, ⟨by decide +kernel, by decide +kernel, by decide +kernel⟩, by decide⟩
theorem kv_X12_of : KV mX12_of 2 := ⟨km_X12_of, mem_T 8 113 rfl rfl, mem_T 8 114 rfl rfl⟩
abbrev mX12_at : Mu := (yX12_at, cX12_at, 3, (some .int))
theorem km_X12_at : KM mX12_at 2 := ⟨mem_T 8 120 rfl rfl, mem_T 1 13 rfl rfl, ⟨by decide +kernel, by decide +kernel, by decide +kernel⟩, by decide⟩
theorem kv_X12_at : KV mX12_at 2 := ⟨km_X12_at, mem_T 8 118 rfl rfl, mem_T 8 119 rfl rfl⟩
abbrev mX12_bits : Mu := (yX12_bits, cX12_bits, 3, (some .int))
theorem km_X12_bits : KM mX12_bits 1 := ⟨mem_T 8 139 rfl rfl, mem_T 1 13 rfl rfl, ⟨by decide +kernel, by decide +kernel, by decide +kernel⟩, by decide⟩
theorem kv_X12_bits : KS mX12_bits 1 := ⟨km_X12_bits, mem_T 8 138 rfl rfl⟩
abbrev mX12_version : Mu := (yX12_version, cX12_version, 2, (some .int))
theorem km_X12_version : KM mX12_version 1 := ⟨mem_T 8 124 rfl rfl, mem_T 1 13 rfl rfl, ⟨by decide +kernel, by decide +kernel, by decide +kernel⟩, by decide⟩
theorem kv_X12_version : KV mX12_version 1 := ⟨km_X12_version, mem_T 8 122 rfl rfl, mem_T 8 123 rfl rfl⟩
abbrev mX12_isVersion : Mu := (yX12_isVersion, cX12_isVersion, 2, (some .boolean))
theorem km_X12_isVersion : KM mX12_isVersion 1 := ⟨mem_T 8 132 rfl rfl, mem_T 1 13 rfl rfl, ⟨by decide +kernel, by decide +kernel, by decide +kernel⟩, by decide⟩
theorem kv_X12_isVersion : KV mX12_isVersion 1 := ⟨km_X12_isVersion, mem_T 8 131 rfl rfl, mem_TS 74 (by decide +kernel) rfl⟩
abbrev mX12_change : Mu := (yX12_change, cX12_change, 4, (some .boolean))
theorem km_X12_change : KM mX12_change 3 := ⟨mem_T 8 128 rfl rfl, mem_T 1 13 rfl rfl, ⟨by decide +kernel, by decide +kernel, by decide +kernel⟩, by decide⟩
theorem kv_X12_change : KV mX12_change 3 := ⟨km_X12_change, mem_T 8 126 rfl rfl, mem_T 8 127 rfl rfl⟩
abbrev mX12_gathers : Mu := (yX12_gathers, cX12_gathers, 4, none)
theorem km_X12_gathers : KM mX12_gathers 2 := ⟨mem_T 8 143 rfl rfl, mem_T 1 13 rfl rfl, ⟨by decide +kernel, by decide +kernel, by decide +kernel⟩, by decide⟩
theorem kv_X12_gathers : KV mX12_gathers 2 := ⟨km_X12_gathers, mem_T 8 142 rfl rfl, mem_TS 75 (by decide +kernel) rfl⟩
abbrev mX12_stage : Mu := (yX12_stage, cX12_stage, 8, (some .int))
theorem km_X12_stage : KM mX12_stage 2 := ⟨mem_T 8 136 rfl rfl, mem_T 1 13 rfl rfl, ⟨by decide +kernel, by decide +kernel, by decide +kernel⟩, by decide⟩
theorem kv_X12_stage : KV mX12_stage 2 := ⟨km_X12_stage, mem_T 8 134 rfl rfl, mem_T 8 135 rfl rfl⟩
abbrev mX12_costs : Mu := (yX12_costs, cX12_costs, 3, (some .int))
theorem km_X12_costs : KM mX12_costs 2 := ⟨mem_T 8 147 rfl rfl, mem_T 1 13 rfl rfl, ⟨by decide +kernel, by decide +kernel, by decide +kernel⟩, by decide⟩
theorem kv_X12_costs : KV mX12_costs 2 := ⟨km_X12_costs, mem_T 8 146 rfl rfl, mem_TS 76 (by decide +kernel) rfl⟩
abbrev mX12_person : Mu := (yX12_person, cX12_person, 3, (some .int))
theorem km_X12_person : KM mX12_person 2 := ⟨mem_T 8 151 rfl rfl, mem_T 1 13 rfl rfl, ⟨by decide +kernel, by decide +kernel, by decide +kernel⟩, by decide⟩
theorem kv_X12_person : KV mX12_person 2 := ⟨km_X12_person, mem_T 8 149 rfl rfl, mem_T 8 150 rfl rfl⟩
abbrev mX12_faces : Mu := (yX12_faces, cX12_faces, 10, (some .int))
theorem km_X12_faces : KM mX12_faces 3 := ⟨mem_T 8 155 rfl rfl, mem_T 1 13 rfl rfl, ⟨by decide +kernel, by decide +kernel, by decide +kernel⟩, by decide⟩
theorem kv_X12_faces : KV mX12_faces 3 := ⟨km_X12_faces, mem_T 8 153 rfl rfl, mem_T 8 154 rfl rfl⟩
abbrev mX12_needs : Mu := (yX12_needs, cX12_needs, 4, (some .boolean))
theorem km_X12_needs : KM mX12_needs 3 := ⟨mem_T 8 159 rfl rfl, mem_T 1 13 rfl rfl, ⟨by decide +kernel, by decide +kernel, by decide +kernel⟩, by decide⟩
theorem kv_X12_needs : KV mX12_needs 3 := ⟨km_X12_needs, mem_T 8 157 rfl rfl, mem_T 8 158 rfl rfl⟩
abbrev mX12_wires : Mu := (yX12_wires, cX12_wires, 9, none)
theorem km_X12_wires : KM mX12_wires 5 := ⟨mem_T 8 167 rfl rfl, mem_T 1 13 rfl rfl, ⟨by decide +kernel, by decide +kernel, by decide +kernel⟩, by decide⟩
theorem kv_X12_wires : KV mX12_wires 5 := ⟨km_X12_wires, mem_T 8 166 rfl rfl, mem_TS 77 (by decide +kernel) rfl⟩
abbrev mX12_wire : Mu := (yX12_wire, cX12_wire, 3, (some .int))
theorem km_X12_wire : KM mX12_wire 2 := ⟨mem_T 8 163 rfl rfl, mem_T 1 13 rfl rfl, ⟨by decide +kernel, by decide +kernel, by decide +kernel⟩, by decide⟩
theorem kv_X12_wire : KV mX12_wire 2 := ⟨km_X12_wire, mem_T 8 161 rfl rfl, mem_T 8 162 rfl rfl⟩
abbrev mX12_isParty : Mu := (yX12_isParty, cX12_isParty, 1, (some .boolean))
theorem km_X12_isParty : KM mX12_isParty 1 := ⟨mem_T 8 174 rfl rfl, mem_T 1 13 rfl rfl, ⟨by decide +kernel, by decide +kernel, by decide +kernel⟩, by decide⟩
theorem kv_X12_isParty : KS mX12_isParty 1 := ⟨km_X12_isParty, mem_T 8 173 rfl rfl⟩
abbrev mX12_owe : Mu := (yX12_owe, cX12_owe, 4, (some .boolean))
theorem km_X12_owe : KM mX12_owe 3 := ⟨mem_T 8 171 rfl rfl, mem_T 1 13 rfl rfl, ⟨by decide +kernel, by decide +kernel, by decide +kernel⟩, by decide⟩
theorem kv_X12_owe : KV mX12_owe 3 := ⟨km_X12_owe, mem_T 8 169 rfl rfl, mem_T 8 170 rfl rfl⟩
abbrev mX12_purse : Mu := (yX12_purse, cX12_purse, 3, (some .boolean))
theorem km_X12_purse : KM mX12_purse 2 := ⟨mem_T 8 178 rfl rfl, mem_T 1 13 rfl rfl, ⟨by decide +kernel, by decide +kernel, by decide +kernel⟩, by decide⟩
theorem kv_X12_purse : KV mX12_purse 2 := ⟨km_X12_purse, mem_T 8 176 rfl rfl, mem_T 8 177 rfl rfl⟩
abbrev mX12_come : Mu := (yX12_come, cX12_come, 3, none)
theorem km_X12_come : KM mX12_come 0 := ⟨mem_T 8 191 rfl rfl, mem_T 1 13 rfl rfl, ⟨by decide +kernel, by decide +kernel, by decide +kernel⟩, by decide⟩
theorem kv_X12_come : KV mX12_come 0 := ⟨km_X12_come, mem_T 8 190 rfl rfl, mem_TS 79 (by decide +kernel) rfl⟩
abbrev mX12_clears : Mu := (yX12_clears, cX12_clears, 6, none)
theorem km_X12_clears : KM mX12_clears 1 := ⟨mem_T 8 186 rfl rfl, mem_T 1 13 rfl rfl, ⟨by decide +kernel, by decide +kernel, by decide +kernel⟩, by decide⟩
theorem kv_X12_clears : KV mX12_clears 1 := ⟨km_X12_clears, mem_T 8 185 rfl rfl, mem_TS 78 (by decide +kernel) rfl⟩
abbrev mX12_clear : Mu := (yX12_clear, cX12_clear, 4, (some .long))
theorem km_X12_clear : KM mX12_clear 3 := ⟨mem_T 8 182 rfl rfl, mem_T 1 13 rfl rfl, ⟨by decide +kernel, by decide +kernel, by decide +kernel⟩, by decide⟩
theorem kv_X12_clear : KV mX12_clear 3 := ⟨km_X12_clear, mem_T 8 180 rfl rfl, mem_T 8 181 rfl rfl⟩
abbrev mX12_clause : Mu := (yX12_clause, cX12_clause, 4, (some .int))
theorem km_X12_clause : KM mX12_clause 3 := ⟨mem_T 8 195 rfl rfl, mem_T 1 13 rfl rfl, ⟨by decide +kernel, by decide +kernel, by decide +kernel⟩, by decide⟩
theorem kv_X12_clause : KV mX12_clause 3 := ⟨km_X12_clause, mem_T 8 193 rfl rfl, mem_T 8 194 rfl rfl⟩
abbrev mX12_stand : Mu := (yX12_stand, cX12_stand, 3, (some .boolean))
theorem km_X12_stand : KM mX12_stand 2 := ⟨mem_T 8 199 rfl rfl, mem_T 1 13 rfl rfl, ⟨by decide +kernel, by decide +kernel, by decide +kernel⟩, by decide⟩
theorem kv_X12_stand : KV mX12_stand 2 := ⟨km_X12_stand, mem_T 8 197 rfl rfl, mem_T 8 198 rfl rfl⟩
abbrev mX12_worthTo : Mu := (yX12_worthTo, cX12_worthTo, 5, (some .int))
theorem km_X12_worthTo : KM mX12_worthTo 2 := ⟨mem_T 8 215 rfl rfl, mem_T 1 13 rfl rfl, ⟨by decide +kernel, by decide +kernel, by decide +kernel⟩, by decide⟩
theorem kv_X12_worthTo : KV mX12_worthTo 2 := ⟨km_X12_worthTo, mem_T 8 214 rfl rfl, mem_TS 82 (by decide +kernel) rfl⟩
abbrev mX12_signs : Mu := (yX12_signs, cX12_signs, 3, (some .boolean))
theorem km_X12_signs : KM mX12_signs 2 := ⟨mem_T 8 211 rfl rfl, mem_T 1 13 rfl rfl, ⟨by decide +kernel, by decide +kernel, by decide +kernel⟩, by decide⟩
theorem kv_X12_signs : KV mX12_signs 2 := ⟨km_X12_signs, mem_T 8 210 rfl rfl, mem_TS 81 (by decide +kernel) rfl⟩
abbrev mX12_poolOf : Mu := (yX12_poolOf, cX12_poolOf, 3, (some .int))
theorem km_X12_poolOf : KM mX12_poolOf 0 := ⟨mem_T 8 207 rfl rfl, mem_T 1 13 rfl rfl, ⟨by decide +kernel, by decide +kernel, by decide +kernel⟩, by decide⟩
theorem kv_X12_poolOf : KV mX12_poolOf 0 := ⟨km_X12_poolOf, mem_T 8 206 rfl rfl, mem_TS 80 (by decide +kernel) rfl⟩
abbrev mX12_worthAll : Mu := (yX12_worthAll, cX12_worthAll, 2, (some .int))
theorem km_X12_worthAll : KM mX12_worthAll 1 := ⟨mem_T 8 219 rfl rfl, mem_T 1 13 rfl rfl, ⟨by decide +kernel, by decide +kernel, by decide +kernel⟩, by decide⟩
theorem kv_X12_worthAll : KV mX12_worthAll 1 := ⟨km_X12_worthAll, mem_T 8 218 rfl rfl, mem_TS 83 (by decide +kernel) rfl⟩
abbrev mX12_shutOut : Mu := (yX12_shutOut, cX12_shutOut, 3, (some .int))
theorem km_X12_shutOut : KM mX12_shutOut 0 := ⟨mem_T 8 223 rfl rfl, mem_T 1 13 rfl rfl, ⟨by decide +kernel, by decide +kernel, by decide +kernel⟩, by decide⟩
theorem kv_X12_shutOut : KV mX12_shutOut 0 := ⟨km_X12_shutOut, mem_T 8 222 rfl rfl, mem_TS 84 (by decide +kernel) rfl⟩
abbrev mX12_pool : Mu := (yX12_pool, cX12_pool, 3, (some .int))
theorem km_X12_pool : KM mX12_pool 1 := ⟨mem_T 8 203 rfl rfl, mem_T 1 13 rfl rfl, ⟨by decide +kernel, by decide +kernel, by decide +kernel⟩, by decide⟩
theorem kv_X12_pool : KV mX12_pool 1 := ⟨km_X12_pool, mem_T 8 201 rfl rfl, mem_T 8 202 rfl rfl⟩
abbrev mX12_look : Mu := (yX12_look, cX12_look, 5, (some .long))
theorem km_X12_look : KM mX12_look 1 := ⟨mem_T 8 227 rfl rfl, mem_T 1 13 rfl rfl, ⟨by decide +kernel, by decide +kernel, by decide +kernel⟩, by decide⟩
theorem kv_X12_look : KV mX12_look 1 := ⟨km_X12_look, mem_T 8 225 rfl rfl, mem_T 8 226 rfl rfl⟩
abbrev mJ11_isValidCodePoint_9a6ad : Mu := (yJ11_isValidCodePoint_9a6ad, cJ11_isValidCodePoint_9a6ad, 2, (some .boolean))
theorem km_J11_isValidCodePoint_9a6ad : KM mJ11_isValidCodePoint_9a6ad 1 := ⟨mem_T 4 88 rfl rfl, mem_T 1 19 rfl rfl, ⟨by decide +kernel, by decide +kernel, by decide +kernel⟩, by decide⟩
theorem kv_J11_isValidCodePoint_9a6ad : KS mJ11_isValidCodePoint_9a6ad 1 := ⟨km_J11_isValidCodePoint_9a6ad, mem_T 4 87 rfl rfl⟩
abbrev mJ11_highSurrogate_5068e : Mu := (yJ11_highSurrogate_5068e, cJ11_highSurrogate_5068e, 1, (some .char))
theorem km_J11_highSurrogate_5068e : KM mJ11_highSurrogate_5068e 1 := ⟨mem_T 4 91 rfl rfl, mem_T 1 19 rfl rfl, ⟨by decide +kernel, by decide +kernel, by decide +kernel⟩, by decide⟩
theorem kv_J11_highSurrogate_5068e : KS mJ11_highSurrogate_5068e 1 := ⟨km_J11_highSurrogate_5068e, mem_T 4 90 rfl rfl⟩
abbrev mJ11_lowSurrogate_5068e : Mu := (yJ11_lowSurrogate_5068e, cJ11_lowSurrogate_5068e, 1, (some .char))
theorem km_J11_lowSurrogate_5068e : KM mJ11_lowSurrogate_5068e 1 := ⟨mem_T 4 95 rfl rfl, mem_T 1 19 rfl rfl, ⟨by decide +kernel, by decide +kernel, by decide +kernel⟩, by decide⟩
theorem kv_J11_lowSurrogate_5068e : KS mJ11_lowSurrogate_5068e 1 := ⟨km_J11_lowSurrogate_5068e, mem_T 4 94 rfl rfl⟩
abbrev mJ6_bitCount_0f7a4 : Mu := (yJ6_bitCount_0f7a4, cJ6_bitCount_0f7a4, 1, (some .int))
theorem km_J6_bitCount_0f7a4 : KM mJ6_bitCount_0f7a4 1 := ⟨mem_T 5 82 rfl rfl, mem_T 1 20 rfl rfl, ⟨by decide +kernel, by decide +kernel, by decide +kernel⟩, by decide⟩
theorem kv_J6_bitCount_0f7a4 : KS mJ6_bitCount_0f7a4 1 := ⟨km_J6_bitCount_0f7a4, mem_T 5 81 rfl rfl⟩
abbrev mJ9_abs_0f7a4 : Mu := (yJ9_abs_0f7a4, cJ9_abs_0f7a4, 1, (some .int))
theorem km_J9_abs_0f7a4 : KM mJ9_abs_0f7a4 1 := ⟨mem_T 5 173 rfl rfl, mem_T 1 18 rfl rfl, ⟨by decide +kernel, by decide +kernel, by decide +kernel⟩, by decide⟩
theorem kv_J9_abs_0f7a4 : KS mJ9_abs_0f7a4 1 := ⟨km_J9_abs_0f7a4, mem_T 5 172 rfl rfl⟩
abbrev mJ9_max_7cf53 : Mu := (yJ9_max_7cf53, cJ9_max_7cf53, 2, (some .int))
theorem km_J9_max_7cf53 : KM mJ9_max_7cf53 2 := ⟨mem_T 4 55 rfl rfl, mem_T 1 18 rfl rfl, ⟨by decide +kernel, by decide +kernel, by decide +kernel⟩, by decide⟩
theorem kv_J9_max_7cf53 : KS mJ9_max_7cf53 2 := ⟨km_J9_max_7cf53, mem_T 4 54 rfl rfl⟩
abbrev mJ9_max_f86c9 : Mu := (yJ9_max_f86c9, cJ9_max_f86c9, 4, (some .long))
theorem km_J9_max_f86c9 : KM mJ9_max_f86c9 2 := ⟨mem_T 5 216 rfl rfl, mem_T 1 18 rfl rfl, ⟨by decide +kernel, by decide +kernel, by decide +kernel⟩, by decide⟩
theorem kv_J9_max_f86c9 : KS mJ9_max_f86c9 2 := ⟨km_J9_max_f86c9, mem_T 5 215 rfl rfl⟩
abbrev mJ9_min_7cf53 : Mu := (yJ9_min_7cf53, cJ9_min_7cf53, 2, (some .int))
theorem km_J9_min_7cf53 : KM mJ9_min_7cf53 2 := ⟨mem_T 4 58 rfl rfl, mem_T 1 18 rfl rfl, ⟨by decide +kernel, by decide +kernel, by decide +kernel⟩, by decide⟩
theorem kv_J9_min_7cf53 : KS mJ9_min_7cf53 2 := ⟨km_J9_min_7cf53, mem_T 4 57 rfl rfl⟩
abbrev mJ9_min_f86c9 : Mu := (yJ9_min_f86c9, cJ9_min_f86c9, 4, (some .long))
theorem km_J9_min_f86c9 : KM mJ9_min_f86c9 2 := ⟨mem_T 5 220 rfl rfl, mem_T 1 18 rfl rfl, ⟨by decide +kernel, by decide +kernel, by decide +kernel⟩, by decide⟩
theorem kv_J9_min_f86c9 : KS mJ9_min_f86c9 2 := ⟨km_J9_min_f86c9, mem_T 5 219 rfl rfl⟩
abbrev mJ0_length_8abf5 : Mu := (yJ0_length_8abf5, cJ0_length_8abf5, 1, (some .int))
theorem km_J0_length_8abf5 : KM mJ0_length_8abf5 0 := ⟨mem_T 4 42 rfl rfl, mem_T 1 14 rfl rfl, ⟨by decide +kernel, by decide +kernel, by decide +kernel⟩, by decide⟩
theorem kv_J0_length_8abf5 : KV mJ0_length_8abf5 0 := ⟨km_J0_length_8abf5, mem_T 4 40 rfl rfl, mem_T 4 41 rfl rfl⟩
abbrev mJ0_charAt_5068e : Mu := (yJ0_charAt_5068e, cJ0_charAt_5068e, 2, (some .char))
theorem km_J0_charAt_5068e : KM mJ0_charAt_5068e 1 := ⟨mem_T 3 229 rfl rfl, mem_T 1 14 rfl rfl, ⟨by decide +kernel, by decide +kernel, by decide +kernel⟩, by decide⟩
theorem kv_J0_charAt_5068e : KV mJ0_charAt_5068e 1 := ⟨km_J0_charAt_5068e, mem_T 3 227 rfl rfl, mem_T 3 228 rfl rfl⟩
abbrev mJ0_indexOf_0f7a4 : Mu := (yJ0_indexOf_0f7a4, cJ0_indexOf_0f7a4, 2, (some .int))
theorem km_J0_indexOf_0f7a4 : KM mJ0_indexOf_0f7a4 1 := ⟨mem_T 4 34 rfl rfl, mem_T 1 14 rfl rfl, ⟨by decide +kernel, by decide +kernel, by decide +kernel⟩, by decide⟩
theorem kv_J0_indexOf_0f7a4 : KV mJ0_indexOf_0f7a4 1 := ⟨km_J0_indexOf_0f7a4, mem_T 4 32 rfl rfl, mem_T 4 33 rfl rfl⟩
abbrev mJ0_indexOf_7cf53 : Mu := (yJ0_indexOf_7cf53, cJ0_indexOf_7cf53, 3, (some .int))
theorem km_J0_indexOf_7cf53 : KM mJ0_indexOf_7cf53 2 := ⟨mem_T 4 38 rfl rfl, mem_T 1 14 rfl rfl, ⟨by decide +kernel, by decide +kernel, by decide +kernel⟩, by decide⟩
theorem kv_J0_indexOf_7cf53 : KV mJ0_indexOf_7cf53 2 := ⟨km_J0_indexOf_7cf53, mem_T 4 36 rfl rfl, mem_T 4 37 rfl rfl⟩
abbrev mJ0_coder_7d493 : Mu := (yJ0_coder_7d493, cJ0_coder_7d493, 1, (some .byte))
theorem km_J0_coder_7d493 : KM mJ0_coder_7d493 0 := ⟨mem_T 4 46 rfl rfl, mem_T 1 14 rfl rfl, ⟨by decide +kernel, by decide +kernel, by decide +kernel⟩, by decide⟩
theorem kv_J0_coder_7d493 : KV mJ0_coder_7d493 0 := ⟨km_J0_coder_7d493, mem_T 4 44 rfl rfl, mem_T 4 45 rfl rfl⟩
abbrev mJ0_isLatin1_aae02 : Mu := (yJ0_isLatin1_aae02, cJ0_isLatin1_aae02, 1, (some .boolean))
theorem km_J0_isLatin1_aae02 : KM mJ0_isLatin1_aae02 0 := ⟨mem_T 3 233 rfl rfl, mem_T 1 14 rfl rfl, ⟨by decide +kernel, by decide +kernel, by decide +kernel⟩, by decide⟩
theorem kv_J0_isLatin1_aae02 : KV mJ0_isLatin1_aae02 0 := ⟨km_J0_isLatin1_aae02, mem_T 3 231 rfl rfl, mem_T 3 232 rfl rfl⟩
abbrev mJ0_checkIndex_df160 : Mu := (yJ0_checkIndex_df160, cJ0_checkIndex_df160, 2, none)
theorem km_J0_checkIndex_df160 : KM mJ0_checkIndex_df160 2 := ⟨mem_T 4 1 rfl rfl, mem_T 1 14 rfl rfl, ⟨by decide +kernel, by decide +kernel, by decide +kernel⟩, by decide⟩
theorem kv_J0_checkIndex_df160 : KS mJ0_checkIndex_df160 2 := ⟨km_J0_checkIndex_df160, mem_T 4 0 rfl rfl⟩
abbrev mJ0_checkBoundsBeginEnd_23922 : Mu := (yJ0_checkBoundsBeginEnd_23922, cJ0_checkBoundsBeginEnd_23922, 3, none)
theorem km_J0_checkBoundsBeginEnd_23922 : KM mJ0_checkBoundsBeginEnd_23922 3 := ⟨mem_T 4 76 rfl rfl, mem_T 1 14 rfl rfl, ⟨by decide +kernel, by decide +kernel, by decide +kernel⟩, by decide⟩
theorem kv_J0_checkBoundsBeginEnd_23922 : KS mJ0_checkBoundsBeginEnd_23922 3 := ⟨km_J0_checkBoundsBeginEnd_23922, mem_T 4 75 rfl rfl⟩
abbrev mJ1_charAt_3b067 : Mu := (yJ1_charAt_3b067, cJ1_charAt_3b067, 2, (some .char))
theorem km_J1_charAt_3b067 : KM mJ1_charAt_3b067 2 := ⟨mem_T 3 238 rfl rfl, mem_T 1 15 rfl rfl, ⟨by decide +kernel, by decide +kernel, by decide +kernel⟩, by decide⟩
theorem kv_J1_charAt_3b067 : KS mJ1_charAt_3b067 2 := ⟨km_J1_charAt_3b067, mem_T 3 237 rfl rfl⟩
abbrev mJ1_canEncode_9a6ad : Mu := (yJ1_canEncode_9a6ad, cJ1_canEncode_9a6ad, 1, (some .boolean))
theorem km_J1_canEncode_9a6ad : KM mJ1_canEncode_9a6ad 1 := ⟨mem_T 4 52 rfl rfl, mem_T 1 15 rfl rfl, ⟨by decide +kernel, by decide +kernel, by decide +kernel⟩, by decide⟩
theorem kv_J1_canEncode_9a6ad : KS mJ1_canEncode_9a6ad 1 := ⟨km_J1_canEncode_9a6ad, mem_T 4 51 rfl rfl⟩
abbrev mJ1_indexOf_4cfef : Mu := (yJ1_indexOf_4cfef, cJ1_indexOf_4cfef, 4, (some .int))
theorem km_J1_indexOf_4cfef : KM mJ1_indexOf_4cfef 4 := ⟨mem_T 4 49 rfl rfl, mem_T 1 15 rfl rfl, ⟨by decide +kernel, by decide +kernel, by decide +kernel⟩, by decide⟩
theorem kv_J1_indexOf_4cfef : KS mJ1_indexOf_4cfef 4 := ⟨km_J1_indexOf_4cfef, mem_T 4 48 rfl rfl⟩
abbrev mJ1_indexOfChar_4cfef : Mu := (yJ1_indexOfChar_4cfef, cJ1_indexOfChar_4cfef, 6, (some .int))
theorem km_J1_indexOfChar_4cfef : KM mJ1_indexOfChar_4cfef 4 := ⟨mem_T 4 61 rfl rfl, mem_T 1 15 rfl rfl, ⟨by decide +kernel, by decide +kernel, by decide +kernel⟩, by decide⟩
theorem kv_J1_indexOfChar_4cfef : KS mJ1_indexOfChar_4cfef 4 := ⟨km_J1_indexOfChar_4cfef, mem_T 4 60 rfl rfl⟩
abbrev mJ2_getChar_3b067 : Mu := (yJ2_getChar_3b067, cJ2_getChar_3b067, 2, (some .char))
theorem km_J2_getChar_3b067 : KM mJ2_getChar_3b067 2 := ⟨mem_T 4 19 rfl rfl, mem_T 1 17 rfl rfl, ⟨by decide +kernel, by decide +kernel, by decide +kernel⟩, by decide⟩
theorem kv_J2_getChar_3b067 : KS mJ2_getChar_3b067 2 := ⟨km_J2_getChar_3b067, mem_T 4 18 rfl rfl⟩
abbrev mJ2_length_9d52b : Mu := (yJ2_length_9d52b, cJ2_length_9d52b, 1, (some .int))
theorem km_J2_length_9d52b : KM mJ2_length_9d52b 1 := ⟨mem_T 4 15 rfl rfl, mem_T 1 17 rfl rfl, ⟨by decide +kernel, by decide +kernel, by decide +kernel⟩, by decide⟩
theorem kv_J2_length_9d52b : KS mJ2_length_9d52b 1 := ⟨km_J2_length_9d52b, mem_T 4 14 rfl rfl⟩
abbrev mJ2_indexOf_4cfef : Mu := (yJ2_indexOf_4cfef, cJ2_indexOf_4cfef, 4, (some .int))
theorem km_J2_indexOf_4cfef : KM mJ2_indexOf_4cfef 4 := ⟨mem_T 4 64 rfl rfl, mem_T 1 17 rfl rfl, ⟨by decide +kernel, by decide +kernel, by decide +kernel⟩, by decide⟩
theorem kv_J2_indexOf_4cfef : KS mJ2_indexOf_4cfef 4 := ⟨km_J2_indexOf_4cfef, mem_T 4 63 rfl rfl⟩
abbrev mJ2_indexOfChar_4cfef : Mu := (yJ2_indexOfChar_4cfef, cJ2_indexOfChar_4cfef, 4, (some .int))
theorem km_J2_indexOfChar_4cfef : KM mJ2_indexOfChar_4cfef 4 := ⟨mem_T 4 70 rfl rfl, mem_T 1 17 rfl rfl, ⟨by decide +kernel, by decide +kernel, by decide +kernel⟩, by decide⟩
theorem kv_J2_indexOfChar_4cfef : KS mJ2_indexOfChar_4cfef 4 := ⟨km_J2_indexOfChar_4cfef, mem_T 4 69 rfl rfl⟩
abbrev mJ2_indexOfCharUnsafe_4cfef : Mu := (yJ2_indexOfCharUnsafe_4cfef, cJ2_indexOfCharUnsafe_4cfef, 5, (some .int))
theorem km_J2_indexOfCharUnsafe_4cfef : KM mJ2_indexOfCharUnsafe_4cfef 4 := ⟨mem_T 4 82 rfl rfl, mem_T 1 17 rfl rfl, ⟨by decide +kernel, by decide +kernel, by decide +kernel⟩, by decide⟩
theorem kv_J2_indexOfCharUnsafe_4cfef : KS mJ2_indexOfCharUnsafe_4cfef 4 := ⟨km_J2_indexOfCharUnsafe_4cfef, mem_T 4 81 rfl rfl⟩
abbrev mJ2_indexOfSupplementary_4cfef : Mu := (yJ2_indexOfSupplementary_4cfef, cJ2_indexOfSupplementary_4cfef, 7, (some .int))
theorem km_J2_indexOfSupplementary_4cfef : KM mJ2_indexOfSupplementary_4cfef 4 := ⟨mem_T 4 85 rfl rfl, mem_T 1 17 rfl rfl, ⟨by decide +kernel, by decide +kernel, by decide +kernel⟩, by decide⟩
theorem kv_J2_indexOfSupplementary_4cfef : KS mJ2_indexOfSupplementary_4cfef 4 := ⟨km_J2_indexOfSupplementary_4cfef, mem_T 4 84 rfl rfl⟩
abbrev mJ2_charAt_3b067 : Mu := (yJ2_charAt_3b067, cJ2_charAt_3b067, 2, (some .char))
theorem km_J2_charAt_3b067 : KM mJ2_charAt_3b067 2 := ⟨mem_T 4 9 rfl rfl, mem_T 1 17 rfl rfl, ⟨by decide +kernel, by decide +kernel, by decide +kernel⟩, by decide⟩
theorem kv_J2_charAt_3b067 : KS mJ2_charAt_3b067 2 := ⟨km_J2_charAt_3b067, mem_T 4 8 rfl rfl⟩
abbrev mJ2_checkIndex_2214a : Mu := (yJ2_checkIndex_2214a, cJ2_checkIndex_2214a, 2, none)
theorem km_J2_checkIndex_2214a : KM mJ2_checkIndex_2214a 2 := ⟨mem_T 4 12 rfl rfl, mem_T 1 17 rfl rfl, ⟨by decide +kernel, by decide +kernel, by decide +kernel⟩, by decide⟩
theorem kv_J2_checkIndex_2214a : KS mJ2_checkIndex_2214a 2 := ⟨km_J2_checkIndex_2214a, mem_T 4 11 rfl rfl⟩
abbrev mJ2_checkBoundsBeginEnd_d044e : Mu := (yJ2_checkBoundsBeginEnd_d044e, cJ2_checkBoundsBeginEnd_d044e, 3, none)
theorem km_J2_checkBoundsBeginEnd_d044e : KM mJ2_checkBoundsBeginEnd_d044e 3 := ⟨mem_T 4 73 rfl rfl, mem_T 1 17 rfl rfl, ⟨by decide +kernel, by decide +kernel, by decide +kernel⟩, by decide⟩
theorem kv_J2_checkBoundsBeginEnd_d044e : KS mJ2_checkBoundsBeginEnd_d044e 3 := ⟨km_J2_checkBoundsBeginEnd_d044e, mem_T 4 72 rfl rfl⟩
abbrev mJ3_checkIndex_8e157 : Mu := (yJ3_checkIndex_8e157, cJ3_checkIndex_8e157, 3, (some .int))
theorem km_J3_checkIndex_8e157 : KM mJ3_checkIndex_8e157 3 := ⟨mem_T 4 6 rfl rfl, mem_T 1 16 rfl rfl, ⟨by decide +kernel, by decide +kernel, by decide +kernel⟩, by decide⟩
theorem kv_J3_checkIndex_8e157 : KS mJ3_checkIndex_8e157 3 := ⟨km_J3_checkIndex_8e157, mem_T 4 5 rfl rfl⟩
abbrev mJ3_checkFromToIndex_8c36e : Mu := (yJ3_checkFromToIndex_8c36e, cJ3_checkFromToIndex_8c36e, 4, (some .int))
theorem km_J3_checkFromToIndex_8c36e : KM mJ3_checkFromToIndex_8c36e 4 := ⟨mem_T 4 79 rfl rfl, mem_T 1 16 rfl rfl, ⟨by decide +kernel, by decide +kernel, by decide +kernel⟩, by decide⟩
theorem kv_J3_checkFromToIndex_8c36e : KS mJ3_checkFromToIndex_8c36e 4 := ⟨km_J3_checkFromToIndex_8c36e, mem_T 4 78 rfl rfl⟩
theorem ml_X11_32 : Cond.methodLink RX11 32 yX4_init ∈ TS := mem_T 1 211 rfl rfl
theorem ml_X11_41 : Cond.methodLink RX11 41 yX2_init ∈ TS := mem_T 2 24 rfl rfl
theorem ml_X11_50 : Cond.methodLink RX11 50 yX0_init ∈ TS := mem_T 2 64 rfl rfl
theorem ml_X11_66 : Cond.methodLink RX11 66 yX10_init ∈ TS := mem_T 2 168 rfl rfl
theorem ml_X11_75 : Cond.methodLink RX11 75 yX1_init ∈ TS := mem_T 2 196 rfl rfl
theorem ml_X11_91 : Cond.methodLink RX11 91 yX5_addPicture ∈ TS := mem_T 3 54 rfl rfl
theorem ml_X11_95 : Cond.methodLink RX11 95 yX5_addPrint ∈ TS := mem_T 3 65 rfl rfl
theorem ml_X11_99 : Cond.methodLink RX11 99 yX5_tell ∈ TS := mem_T 3 77 rfl rfl
theorem ml_X11_102 : Cond.methodLink RX11 102 yX11_within ∈ TS := mem_T 3 96 rfl rfl
theorem ml_X11_106 : Cond.methodLink RX11 106 yX5_hasFrame ∈ TS := mem_T 3 97 rfl rfl
theorem ml_X11_110 : Cond.methodLink RX11 110 yX5_leadAt ∈ TS := mem_T 3 98 rfl rfl
theorem ml_X11_114 : Cond.methodLink RX11 114 yX5_hasPrint ∈ TS := mem_T 3 106 rfl rfl
theorem ml_X11_118 : Cond.methodLink RX11 118 yX5_firstOff ∈ TS := mem_T 3 107 rfl rfl
theorem ml_X11_122 : Cond.methodLink RX11 122 yX3_addHall ∈ TS := mem_T 3 120 rfl rfl
theorem ml_X11_126 : Cond.methodLink RX11 126 yX3_demand ∈ TS := mem_T 3 132 rfl rfl
theorem ml_X11_129 : Cond.methodLink RX11 129 yX3_addSet ∈ TS := mem_T 3 144 rfl rfl
theorem ml_X11_132 : Cond.methodLink RX11 132 yX3_hasSet ∈ TS := mem_T 3 152 rfl rfl
theorem ml_X11_135 : Cond.methodLink RX11 135 yX3_goesTo ∈ TS := mem_T 3 156 rfl rfl
theorem ml_X11_145 : Cond.methodLink RX11 145 yX3_move ∈ TS := mem_T 3 160 rfl rfl
theorem ml_X11_155 : Cond.methodLink RX11 155 yX8_append ∈ TS := mem_T 3 171 rfl rfl
theorem ml_X11_158 : Cond.methodLink RX11 158 yX8_cut ∈ TS := mem_T 3 183 rfl rfl
theorem ml_X11_161 : Cond.methodLink RX11 161 yX4_forget ∈ TS := mem_T 3 192 rfl rfl
theorem ml_X11_164 : Cond.methodLink RX11 164 yX4_parse ∈ TS := mem_T 3 196 rfl rfl
theorem ml_X11_172 : Cond.methodLink RX11 172 yX2_adopt ∈ TS := mem_T 4 142 rfl rfl
theorem ml_X11_176 : Cond.methodLink RX11 176 yX2_linesOf ∈ TS := mem_T 4 146 rfl rfl
theorem ml_X11_185 : Cond.methodLink RX11 185 yX3_hasHall ∈ TS := mem_T 4 159 rfl rfl
theorem ml_X11_188 : Cond.methodLink RX11 188 yX2_judge ∈ TS := mem_T 4 160 rfl rfl
theorem ml_X11_192 : Cond.methodLink RX11 192 yX2_reason ∈ TS := mem_T 4 191 rfl rfl
theorem ml_X11_207 : Cond.methodLink RX11 207 yX0_addCrowd ∈ TS := mem_T 4 207 rfl rfl
theorem ml_X11_210 : Cond.methodLink RX11 210 yX0_hasCrowd ∈ TS := mem_T 4 216 rfl rfl
theorem ml_X11_213 : Cond.methodLink RX11 213 yX0_inspect ∈ TS := mem_T 4 220 rfl rfl
theorem ml_X11_217 : Cond.methodLink RX11 217 yX0_worthOf ∈ TS := mem_T 4 228 rfl rfl
theorem ml_X11_220 : Cond.methodLink RX11 220 yX5_hasPicture ∈ TS := mem_T 4 236 rfl rfl
theorem ml_X11_227 : Cond.methodLink RX11 227 yX0_pass ∈ TS := mem_T 5 1 rfl rfl
theorem ml_X11_231 : Cond.methodLink RX11 231 yX3_tell ∈ TS := mem_T 5 38 rfl rfl
theorem ml_X11_234 : Cond.methodLink RX11 234 yX5_tellOf ∈ TS := mem_T 5 47 rfl rfl
theorem ml_X11_237 : Cond.methodLink RX11 237 yX7_addVersion ∈ TS := mem_T 5 55 rfl rfl
theorem ml_X11_240 : Cond.methodLink RX11 240 yX7_link ∈ TS := mem_T 5 64 rfl rfl
theorem ml_X11_243 : Cond.methodLink RX11 243 yX7_order ∈ TS := mem_T 5 76 rfl rfl
theorem ml_X11_246 : Cond.methodLink RX11 246 yX7_addPerson ∈ TS := mem_T 5 107 rfl rfl
theorem ml_X11_249 : Cond.methodLink RX11 249 yX7_cast ∈ TS := mem_T 5 115 rfl rfl
theorem ml_X11_261 : Cond.methodLink RX11 261 yX10_demand ∈ TS := mem_T 5 135 rfl rfl
theorem ml_X11_262 : Cond.methodLink RX11 262 yX10_order ∈ TS := mem_T 5 145 rfl rfl
theorem ml_X11_263 : Cond.methodLink RX11 263 yX1_lend ∈ TS := mem_T 5 178 rfl rfl
theorem ml_X11_266 : Cond.methodLink RX11 266 yX1_fill ∈ TS := mem_T 5 188 rfl rfl
theorem ml_X11_271 : Cond.methodLink RX11 271 yX1_settle ∈ TS := mem_T 5 197 rfl rfl
theorem ml_X11_287 : Cond.methodLink RX11 287 yX9_addClause ∈ TS := mem_T 5 225 rfl rfl
theorem ml_X11_290 : Cond.methodLink RX11 290 yX9_insist ∈ TS := mem_T 5 234 rfl rfl
theorem ml_X11_293 : Cond.methodLink RX11 293 yX9_bargain ∈ TS := mem_T 6 2 rfl rfl
theorem ml_X11_305 : Cond.methodLink RX11 305 yX9_worthTo ∈ TS := mem_T 6 23 rfl rfl
theorem ml_X11_325 : Cond.methodLink RX11 325 yX3_lookersInAll ∈ TS := mem_T 6 28 rfl rfl
theorem ml_X11_329 : Cond.methodLink RX11 329 yX3_players ∈ TS := mem_T 6 32 rfl rfl
theorem ml_X11_332 : Cond.methodLink RX11 332 yX5_wornOut ∈ TS := mem_T 6 36 rfl rfl
theorem ml_X11_335 : Cond.methodLink RX11 335 yX2_linesInAll ∈ TS := mem_T 6 40 rfl rfl
theorem ml_X0_76 : Cond.methodLink RX0 76 yX5_hasPrint ∈ TS := mem_T 4 224 rfl rfl
theorem ml_X0_82 : Cond.methodLink RX0 82 yX2_judge ∈ TS := mem_T 4 225 rfl rfl
theorem ml_X0_88 : Cond.methodLink RX0 88 yX2_reason ∈ TS := mem_T 4 226 rfl rfl
theorem ml_X0_92 : Cond.methodLink RX0 92 yX5_firstOff ∈ TS := mem_T 4 227 rfl rfl
theorem ml_X0_114 : Cond.methodLink RX0 114 yX0_inspect ∈ TS := mem_T 5 5 rfl rfl
theorem ml_X0_121 : Cond.methodLink RX0 121 yX0_send ∈ TS := mem_T 5 6 rfl rfl
theorem ml_X0_125 : Cond.methodLink RX0 125 yX0_account ∈ TS := mem_T 5 24 rfl rfl
theorem ml_X0_128 : Cond.methodLink RX0 128 yX0_spread ∈ TS := mem_T 5 30 rfl rfl
theorem ml_X0_131 : Cond.methodLink RX0 131 yX0_bestHall ∈ TS := mem_T 5 10 rfl rfl
theorem ml_X0_135 : Cond.methodLink RX0 135 yX3_places ∈ TS := mem_T 5 14 rfl rfl
theorem ml_X0_138 : Cond.methodLink RX0 138 yJ9_min_7cf53 ∈ TS := mem_T 5 19 rfl rfl
theorem ml_X0_143 : Cond.methodLink RX0 143 yX0_note ∈ TS := mem_T 5 20 rfl rfl
theorem ml_X0_146 : Cond.methodLink RX0 146 yX0_worthOf ∈ TS := mem_T 5 18 rfl rfl
theorem ml_X0_165 : Cond.methodLink RX0 165 yX3_hasSet ∈ TS := mem_T 5 28 rfl rfl
theorem ml_X0_171 : Cond.methodLink RX0 171 yJ9_max_7cf53 ∈ TS := mem_T 5 29 rfl rfl
theorem ml_X1_43 : Cond.methodLink RX1 43 yX1_share ∈ TS := mem_T 5 201 rfl rfl
theorem ml_X1_46 : Cond.methodLink RX1 46 yX1_payAgain ∈ TS := mem_T 5 205 rfl rfl
theorem ml_X1_50 : Cond.methodLink RX1 50 yX1_purseOf ∈ TS := mem_T 5 209 rfl rfl
theorem ml_X1_56 : Cond.methodLink RX1 56 yJ9_min_f86c9 ∈ TS := mem_T 5 218 rfl rfl
theorem ml_X1_62 : Cond.methodLink RX1 62 yX3_hasHall ∈ TS := mem_T 5 213 rfl rfl
theorem ml_X1_70 : Cond.methodLink RX1 70 yJ9_max_f86c9 ∈ TS := mem_T 5 214 rfl rfl
theorem ml_X2_34 : Cond.methodLink RX2 34 yX2_gather ∈ TS := mem_T 4 164 rfl rfl
theorem ml_X2_50 : Cond.methodLink RX2 50 yX2_ask ∈ TS := mem_T 4 169 rfl rfl
theorem ml_X2_55 : Cond.methodLink RX2 55 yJ9_min_7cf53 ∈ TS := mem_T 4 190 rfl rfl
theorem ml_X2_86 : Cond.methodLink RX2 86 yX3_hasSet ∈ TS := mem_T 4 168 rfl rfl
theorem ml_X2_102 : Cond.methodLink RX2 102 yX6_isSo ∈ TS := mem_T 4 173 rfl rfl
theorem ml_X2_109 : Cond.methodLink RX2 109 yX6_value ∈ TS := mem_T 4 180 rfl rfl
theorem ml_X2_113 : Cond.methodLink RX2 113 yJ9_max_7cf53 ∈ TS := mem_T 4 184 rfl rfl
theorem ml_X2_116 : Cond.methodLink RX2 116 yX2_bar ∈ TS := mem_T 4 185 rfl rfl
theorem ml_X2_120 : Cond.methodLink RX2 120 yX3_canPlay ∈ TS := mem_T 4 195 rfl rfl
theorem ml_X3_59 : Cond.methodLink RX3 59 yX3_canAsk ∈ TS := mem_T 3 125 rfl rfl
theorem ml_X3_67 : Cond.methodLink RX3 67 yX3_hasHall ∈ TS := mem_T 3 136 rfl rfl
theorem ml_X3_74 : Cond.methodLink RX3 74 yX3_hasSet ∈ TS := mem_T 4 199 rfl rfl
theorem ml_X4_29 : Cond.methodLink RX4 29 yX8_scan ∈ TS := mem_T 3 200 rfl rfl
theorem ml_X4_34 : Cond.methodLink RX4 34 yX6_empty ∈ TS := mem_T 4 97 rfl rfl
theorem ml_X4_40 : Cond.methodLink RX4 40 yX4_sign ∈ TS := mem_T 4 101 rfl rfl
theorem ml_X4_44 : Cond.methodLink RX4 44 yX4_line ∈ TS := mem_T 4 105 rfl rfl
theorem ml_X4_61 : Cond.methodLink RX4 61 yX4_refuse ∈ TS := mem_T 4 110 rfl rfl
theorem ml_X4_72 : Cond.methodLink RX4 72 yX6_begin ∈ TS := mem_T 4 114 rfl rfl
theorem ml_X4_76 : Cond.methodLink RX4 76 yX6_add ∈ TS := mem_T 4 118 rfl rfl
theorem ml_X4_79 : Cond.methodLink RX4 79 yX4_condition ∈ TS := mem_T 4 122 rfl rfl
theorem ml_X4_82 : Cond.methodLink RX4 82 yX4_take ∈ TS := mem_T 4 130 rfl rfl
theorem ml_X4_85 : Cond.methodLink RX4 85 yX4_expression ∈ TS := mem_T 4 134 rfl rfl
theorem ml_X4_88 : Cond.methodLink RX4 88 yX4_single ∈ TS := mem_T 4 126 rfl rfl
theorem ml_X4_91 : Cond.methodLink RX4 91 yX4_operand ∈ TS := mem_T 4 138 rfl rfl
theorem ml_X5_59 : Cond.methodLink RX5 59 yX5_hasPicture ∈ TS := mem_T 3 69 rfl rfl
theorem ml_X5_66 : Cond.methodLink RX5 66 yX5_hasFrame ∈ TS := mem_T 3 81 rfl rfl
theorem ml_X5_70 : Cond.methodLink RX5 70 yX5_canBe ∈ TS := mem_T 3 89 rfl rfl
theorem ml_X5_76 : Cond.methodLink RX5 76 yX5_hasPrint ∈ TS := mem_T 3 85 rfl rfl
theorem ml_X5_79 : Cond.methodLink RX5 79 yX5_isOff ∈ TS := mem_T 3 111 rfl rfl
theorem ml_X5_82 : Cond.methodLink RX5 82 yX5_leadAt ∈ TS := mem_T 3 115 rfl rfl
theorem ml_X6_31 : Cond.methodLink RX6 31 yX6_join ∈ TS := mem_T 4 177 rfl rfl
theorem ml_X7_37 : Cond.methodLink RX7 37 yX7_hasVersion ∈ TS := mem_T 5 68 rfl rfl
theorem ml_X7_41 : Cond.methodLink RX7 41 yJ6_bitCount_0f7a4 ∈ TS := mem_T 5 80 rfl rfl
theorem ml_X7_47 : Cond.methodLink RX7 47 yX7_fill ∈ TS := mem_T 5 86 rfl rfl
theorem ml_X7_51 : Cond.methodLink RX7 51 yX7_fewestNights ∈ TS := mem_T 5 99 rfl rfl
theorem ml_X7_54 : Cond.methodLink RX7 54 yX7_next ∈ TS := mem_T 5 91 rfl rfl
theorem ml_X7_62 : Cond.methodLink RX7 62 yX7_after ∈ TS := mem_T 5 95 rfl rfl
theorem ml_X7_72 : Cond.methodLink RX7 72 yX7_ableSet ∈ TS := mem_T 5 119 rfl rfl
theorem ml_X7_75 : Cond.methodLink RX7 75 yX7_speaks ∈ TS := mem_T 5 123 rfl rfl
theorem ml_X7_78 : Cond.methodLink RX7 78 yX7_count ∈ TS := mem_T 5 127 rfl rfl
theorem ml_X8_28 : Cond.methodLink RX8 28 yX8_appendBytes ∈ TS := mem_T 3 175 rfl rfl
theorem ml_X8_39 : Cond.methodLink RX8 39 yX8_standTogether ∈ TS := mem_T 3 204 rfl rfl
theorem ml_X8_43 : Cond.methodLink RX8 43 yX8_addToken ∈ TS := mem_T 3 213 rfl rfl
theorem ml_X8_46 : Cond.methodLink RX8 46 yX8_isLetter ∈ TS := mem_T 3 207 rfl rfl
theorem ml_X8_50 : Cond.methodLink RX8 50 yX8_isDigit ∈ TS := mem_T 3 210 rfl rfl
theorem ml_X8_53 : Cond.methodLink RX8 53 yX8_keyword ∈ TS := mem_T 3 217 rfl rfl
theorem ml_X8_57 : Cond.methodLink RX8 57 yX8_addNumber ∈ TS := mem_T 4 26 rfl rfl
theorem ml_X8_63 : Cond.methodLink RX8 63 yJ0_indexOf_0f7a4 ∈ TS := mem_T 4 31 rfl rfl
theorem ml_X8_69 : Cond.methodLink RX8 69 yX8_isWord ∈ TS := mem_T 3 221 rfl rfl
theorem ml_X8_74 : Cond.methodLink RX8 74 yJ0_charAt_5068e ∈ TS := mem_T 3 226 rfl rfl
theorem ml_X9_38 : Cond.methodLink RX9 38 yX9_signers ∈ TS := mem_T 6 6 rfl rfl
theorem ml_X9_42 : Cond.methodLink RX9 42 yX9_offer ∈ TS := mem_T 6 15 rfl rfl
theorem ml_X9_46 : Cond.methodLink RX9 46 yX9_outOf ∈ TS := mem_T 6 19 rfl rfl
theorem ml_X9_49 : Cond.methodLink RX9 49 yJ9_min_7cf53 ∈ TS := mem_T 6 22 rfl rfl
theorem ml_X9_58 : Cond.methodLink RX9 58 yX9_worthTo ∈ TS := mem_T 6 10 rfl rfl
theorem ml_X10_31 : Cond.methodLink RX10 31 yX3_hasHall ∈ TS := mem_T 5 139 rfl rfl
theorem ml_X10_45 : Cond.methodLink RX10 45 yJ6_bitCount_0f7a4 ∈ TS := mem_T 5 149 rfl rfl
theorem ml_X10_51 : Cond.methodLink RX10 51 yX10_enlist ∈ TS := mem_T 5 150 rfl rfl
theorem ml_X10_55 : Cond.methodLink RX10 55 yX10_fill ∈ TS := mem_T 5 155 rfl rfl
theorem ml_X10_61 : Cond.methodLink RX10 61 yX10_next ∈ TS := mem_T 5 163 rfl rfl
theorem ml_X10_72 : Cond.methodLink RX10 72 yX10_lastOf ∈ TS := mem_T 5 159 rfl rfl
theorem ml_X10_75 : Cond.methodLink RX10 75 yX10_after ∈ TS := mem_T 5 167 rfl rfl
theorem ml_X10_79 : Cond.methodLink RX10 79 yJ9_abs_0f7a4 ∈ TS := mem_T 5 171 rfl rfl
theorem ml_L_9 : Cond.methodLink RL 9 yX11_init ∈ TS := mem_T 1 23 rfl rfl
theorem ml_L_12 : Cond.methodLink RL 12 yX12_init ∈ TS := mem_T 6 46 rfl rfl
theorem ml_L_13 : Cond.methodLink RL 13 yX11_picture ∈ TS := mem_T 3 50 rfl rfl
theorem ml_L_17 : Cond.methodLink RL 17 yX12_picture ∈ TS := mem_T 7 105 rfl rfl
theorem ml_L_18 : Cond.methodLink RL 18 yX11_print ∈ TS := mem_T 3 61 rfl rfl
theorem ml_L_22 : Cond.methodLink RL 22 yX12_print ∈ TS := mem_T 7 112 rfl rfl
theorem ml_L_23 : Cond.methodLink RL 23 yX11_event ∈ TS := mem_T 3 73 rfl rfl
theorem ml_L_27 : Cond.methodLink RL 27 yX12_event ∈ TS := mem_T 7 120 rfl rfl
theorem ml_L_28 : Cond.methodLink RL 28 yX11_lead ∈ TS := mem_T 3 92 rfl rfl
theorem ml_L_32 : Cond.methodLink RL 32 yX12_lead ∈ TS := mem_T 7 131 rfl rfl
theorem ml_L_33 : Cond.methodLink RL 33 yX11_off ∈ TS := mem_T 3 102 rfl rfl
theorem ml_L_37 : Cond.methodLink RL 37 yX12_off ∈ TS := mem_T 7 139 rfl rfl
theorem ml_L_38 : Cond.methodLink RL 38 yX11_hall ∈ TS := mem_T 3 116 rfl rfl
theorem ml_L_41 : Cond.methodLink RL 41 yX12_hall ∈ TS := mem_T 7 147 rfl rfl
theorem ml_L_42 : Cond.methodLink RL 42 yX11_asks ∈ TS := mem_T 3 128 rfl rfl
theorem ml_L_46 : Cond.methodLink RL 46 yX12_asks ∈ TS := mem_T 7 151 rfl rfl
theorem ml_L_47 : Cond.methodLink RL 47 yX11_set ∈ TS := mem_T 3 140 rfl rfl
theorem ml_L_50 : Cond.methodLink RL 50 yX12_set ∈ TS := mem_T 7 159 rfl rfl
theorem ml_L_51 : Cond.methodLink RL 51 yX11_hire ∈ TS := mem_T 3 148 rfl rfl
theorem ml_L_55 : Cond.methodLink RL 55 yX12_hire ∈ TS := mem_T 7 163 rfl rfl
theorem ml_L_56 : Cond.methodLink RL 56 yX11_book ∈ TS := mem_T 3 163 rfl rfl
theorem ml_L_59 : Cond.methodLink RL 59 yX12_book ∈ TS := mem_T 7 175 rfl rfl
theorem ml_L_60 : Cond.methodLink RL 60 yX11_feed ∈ TS := mem_T 3 167 rfl rfl
theorem ml_L_63 : Cond.methodLink RL 63 yX12_feed ∈ TS := mem_T 7 183 rfl rfl
theorem ml_L_64 : Cond.methodLink RL 64 yX11_end ∈ TS := mem_T 3 179 rfl rfl
theorem ml_L_68 : Cond.methodLink RL 68 yX12_end ∈ TS := mem_T 7 187 rfl rfl
theorem ml_L_69 : Cond.methodLink RL 69 yX11_rules ∈ TS := mem_T 3 188 rfl rfl
theorem ml_L_72 : Cond.methodLink RL 72 yX12_rules ∈ TS := mem_T 7 191 rfl rfl
theorem ml_L_73 : Cond.methodLink RL 73 yX11_fault ∈ TS := mem_T 4 151 rfl rfl
theorem ml_L_76 : Cond.methodLink RL 76 yX12_fault ∈ TS := mem_T 8 40 rfl rfl
theorem ml_L_77 : Cond.methodLink RL 77 yX11_runs ∈ TS := mem_T 4 155 rfl rfl
theorem ml_L_80 : Cond.methodLink RL 80 yX12_runs ∈ TS := mem_T 8 44 rfl rfl
theorem ml_L_81 : Cond.methodLink RL 81 yX11_crowd ∈ TS := mem_T 4 203 rfl rfl
theorem ml_L_84 : Cond.methodLink RL 84 yX12_crowd ∈ TS := mem_T 8 72 rfl rfl
theorem ml_L_85 : Cond.methodLink RL 85 yX11_worth ∈ TS := mem_T 4 212 rfl rfl
theorem ml_L_88 : Cond.methodLink RL 88 yX12_worth ∈ TS := mem_T 8 76 rfl rfl
theorem ml_L_89 : Cond.methodLink RL 89 yX11_heard ∈ TS := mem_T 4 232 rfl rfl
theorem ml_L_92 : Cond.methodLink RL 92 yX12_heard ∈ TS := mem_T 8 88 rfl rfl
theorem ml_L_93 : Cond.methodLink RL 93 yX11_weeks ∈ TS := mem_T 4 237 rfl rfl
theorem ml_L_96 : Cond.methodLink RL 96 yX12_weeks ∈ TS := mem_T 8 92 rfl rfl
theorem ml_L_97 : Cond.methodLink RL 97 yX11_of ∈ TS := mem_T 5 34 rfl rfl
theorem ml_L_101 : Cond.methodLink RL 101 yX12_of ∈ TS := mem_T 8 112 rfl rfl
theorem ml_L_102 : Cond.methodLink RL 102 yX11_at ∈ TS := mem_T 5 43 rfl rfl
theorem ml_L_105 : Cond.methodLink RL 105 yX12_at ∈ TS := mem_T 8 117 rfl rfl
theorem ml_L_106 : Cond.methodLink RL 106 yX11_version ∈ TS := mem_T 5 51 rfl rfl
theorem ml_L_109 : Cond.methodLink RL 109 yX12_version ∈ TS := mem_T 8 121 rfl rfl
theorem ml_L_110 : Cond.methodLink RL 110 yX11_change ∈ TS := mem_T 5 60 rfl rfl
theorem ml_L_113 : Cond.methodLink RL 113 yX12_change ∈ TS := mem_T 8 125 rfl rfl
theorem ml_L_114 : Cond.methodLink RL 114 yX11_stage ∈ TS := mem_T 5 72 rfl rfl
theorem ml_L_117 : Cond.methodLink RL 117 yX12_stage ∈ TS := mem_T 8 133 rfl rfl
theorem ml_L_118 : Cond.methodLink RL 118 yX11_person ∈ TS := mem_T 5 103 rfl rfl
theorem ml_L_121 : Cond.methodLink RL 121 yX12_person ∈ TS := mem_T 8 148 rfl rfl
theorem ml_L_122 : Cond.methodLink RL 122 yX11_faces ∈ TS := mem_T 5 111 rfl rfl
theorem ml_L_125 : Cond.methodLink RL 125 yX12_faces ∈ TS := mem_T 8 152 rfl rfl
theorem ml_L_126 : Cond.methodLink RL 126 yX11_needs ∈ TS := mem_T 5 131 rfl rfl
theorem ml_L_129 : Cond.methodLink RL 129 yX12_needs ∈ TS := mem_T 8 156 rfl rfl
theorem ml_L_130 : Cond.methodLink RL 130 yX11_wire ∈ TS := mem_T 5 141 rfl rfl
theorem ml_L_133 : Cond.methodLink RL 133 yX12_wire ∈ TS := mem_T 8 160 rfl rfl
theorem ml_L_134 : Cond.methodLink RL 134 yX11_owe ∈ TS := mem_T 5 174 rfl rfl
theorem ml_L_137 : Cond.methodLink RL 137 yX12_owe ∈ TS := mem_T 8 168 rfl rfl
theorem ml_L_138 : Cond.methodLink RL 138 yX11_purse ∈ TS := mem_T 5 184 rfl rfl
theorem ml_L_141 : Cond.methodLink RL 141 yX12_purse ∈ TS := mem_T 8 175 rfl rfl
theorem ml_L_142 : Cond.methodLink RL 142 yX11_clear ∈ TS := mem_T 5 192 rfl rfl
theorem ml_L_146 : Cond.methodLink RL 146 yX12_clear ∈ TS := mem_T 8 179 rfl rfl
theorem ml_L_147 : Cond.methodLink RL 147 yX11_clause ∈ TS := mem_T 5 221 rfl rfl
theorem ml_L_150 : Cond.methodLink RL 150 yX12_clause ∈ TS := mem_T 8 192 rfl rfl
theorem ml_L_151 : Cond.methodLink RL 151 yX11_stand ∈ TS := mem_T 5 230 rfl rfl
theorem ml_L_154 : Cond.methodLink RL 154 yX12_stand ∈ TS := mem_T 8 196 rfl rfl
theorem ml_L_155 : Cond.methodLink RL 155 yX11_pool ∈ TS := mem_T 5 238 rfl rfl
theorem ml_L_158 : Cond.methodLink RL 158 yX12_pool ∈ TS := mem_T 8 200 rfl rfl
theorem ml_L_159 : Cond.methodLink RL 159 yX11_look ∈ TS := mem_T 6 24 rfl rfl
theorem ml_L_163 : Cond.methodLink RL 163 yX12_look ∈ TS := mem_T 8 224 rfl rfl
theorem ml_X12_223 : Cond.methodLink RX12 223 yX12_isIn ∈ TS := mem_T 7 109 rfl rfl
theorem ml_X12_239 : Cond.methodLink RX12 239 yX12_isPicture ∈ TS := mem_T 7 116 rfl rfl
theorem ml_X12_243 : Cond.methodLink RX12 243 yX12_isPrint ∈ TS := mem_T 7 124 rfl rfl
theorem ml_X12_246 : Cond.methodLink RX12 246 yX12_canBe ∈ TS := mem_T 7 128 rfl rfl
theorem ml_X12_256 : Cond.methodLink RX12 256 yX12_leadOf ∈ TS := mem_T 7 135 rfl rfl
theorem ml_X12_260 : Cond.methodLink RX12 260 yX12_offOf ∈ TS := mem_T 7 143 rfl rfl
theorem ml_X12_264 : Cond.methodLink RX12 264 yX12_isHall ∈ TS := mem_T 7 155 rfl rfl
theorem ml_X12_267 : Cond.methodLink RX12 267 yX12_isSet ∈ TS := mem_T 7 167 rfl rfl
theorem ml_X12_270 : Cond.methodLink RX12 270 yX12_setIn ∈ TS := mem_T 7 171 rfl rfl
theorem ml_X12_274 : Cond.methodLink RX12 274 yX12_printIn ∈ TS := mem_T 7 179 rfl rfl
theorem ml_X12_286 : Cond.methodLink RX12 286 yJ0_length_8abf5 ∈ TS := mem_T 7 215 rfl rfl
theorem ml_X12_292 : Cond.methodLink RX12 292 yJ0_charAt_5068e ∈ TS := mem_T 7 216 rfl rfl
theorem ml_X12_298 : Cond.methodLink RX12 298 yX12_is ∈ TS := mem_T 7 211 rfl rfl
theorem ml_X12_325 : Cond.methodLink RX12 325 yX12_see ∈ TS := mem_T 7 199 rfl rfl
theorem ml_X12_331 : Cond.methodLink RX12 331 yX12_isLetter ∈ TS := mem_T 7 203 rfl rfl
theorem ml_X12_334 : Cond.methodLink RX12 334 yX12_word ∈ TS := mem_T 7 206 rfl rfl
theorem ml_X12_337 : Cond.methodLink RX12 337 yX12_isDigit ∈ TS := mem_T 7 233 rfl rfl
theorem ml_X12_349 : Cond.methodLink RX12 349 yX12_bad ∈ TS := mem_T 8 0 rfl rfl
theorem ml_X12_352 : Cond.methodLink RX12 352 yX12_next0 ∈ TS := mem_T 7 195 rfl rfl
theorem ml_X12_361 : Cond.methodLink RX12 361 yX12_product ∈ TS := mem_T 8 8 rfl rfl
theorem ml_X12_365 : Cond.methodLink RX12 365 yX12_lay ∈ TS := mem_T 8 16 rfl rfl
theorem ml_X12_369 : Cond.methodLink RX12 369 yX12_unit ∈ TS := mem_T 8 12 rfl rfl
theorem ml_X12_372 : Cond.methodLink RX12 372 yX12_every ∈ TS := mem_T 8 24 rfl rfl
theorem ml_X12_375 : Cond.methodLink RX12 375 yX12_one ∈ TS := mem_T 8 28 rfl rfl
theorem ml_X12_378 : Cond.methodLink RX12 378 yX12_opens ∈ TS := mem_T 8 32 rfl rfl
theorem ml_X12_381 : Cond.methodLink RX12 381 yX12_any ∈ TS := mem_T 8 20 rfl rfl
theorem ml_X12_384 : Cond.methodLink RX12 384 yX12_need ∈ TS := mem_T 8 36 rfl rfl
theorem ml_X12_387 : Cond.methodLink RX12 387 yX12_sumUp ∈ TS := mem_T 8 4 rfl rfl
theorem ml_X12_396 : Cond.methodLink RX12 396 yX12_aLine ∈ TS := mem_T 7 236 rfl rfl
theorem ml_X12_399 : Cond.methodLink RX12 399 yX12_both ∈ TS := mem_T 8 64 rfl rfl
theorem ml_X12_402 : Cond.methodLink RX12 402 yX12_comesTo ∈ TS := mem_T 8 60 rfl rfl
theorem ml_X12_416 : Cond.methodLink RX12 416 yX12_isSo ∈ TS := mem_T 8 56 rfl rfl
theorem ml_X12_419 : Cond.methodLink RX12 419 yX12_numberOf ∈ TS := mem_T 8 67 rfl rfl
theorem ml_X12_423 : Cond.methodLink RX12 423 yX12_asksAll ∈ TS := mem_T 8 52 rfl rfl
theorem ml_X12_426 : Cond.methodLink RX12 426 yX12_whyNot ∈ TS := mem_T 8 48 rfl rfl
theorem ml_X12_429 : Cond.methodLink RX12 429 yX12_isCrowd ∈ TS := mem_T 8 80 rfl rfl
theorem ml_X12_432 : Cond.methodLink RX12 432 yX12_worthOf ∈ TS := mem_T 8 84 rfl rfl
theorem ml_X12_438 : Cond.methodLink RX12 438 yX12_choice ∈ TS := mem_T 8 104 rfl rfl
theorem ml_X12_441 : Cond.methodLink RX12 441 yX12_goes ∈ TS := mem_T 8 100 rfl rfl
theorem ml_X12_444 : Cond.methodLink RX12 444 yX12_words ∈ TS := mem_T 8 108 rfl rfl
theorem ml_X12_447 : Cond.methodLink RX12 447 yX12_week ∈ TS := mem_T 8 96 rfl rfl
theorem ml_X12_454 : Cond.methodLink RX12 454 yX12_isVersion ∈ TS := mem_T 8 129 rfl rfl
theorem ml_X12_460 : Cond.methodLink RX12 460 yX12_bits ∈ TS := mem_T 8 137 rfl rfl
theorem ml_X12_463 : Cond.methodLink RX12 463 yX12_gathers ∈ TS := mem_T 8 140 rfl rfl
theorem ml_X12_466 : Cond.methodLink RX12 466 yX12_costs ∈ TS := mem_T 8 144 rfl rfl
theorem ml_X12_475 : Cond.methodLink RX12 475 yX12_wires ∈ TS := mem_T 8 164 rfl rfl
theorem ml_X12_479 : Cond.methodLink RX12 479 yX12_isParty ∈ TS := mem_T 8 172 rfl rfl
theorem ml_X12_487 : Cond.methodLink RX12 487 yX12_come ∈ TS := mem_T 8 188 rfl rfl
theorem ml_X12_490 : Cond.methodLink RX12 490 yX12_clears ∈ TS := mem_T 8 183 rfl rfl
theorem ml_X12_497 : Cond.methodLink RX12 497 yX12_worthTo ∈ TS := mem_T 8 212 rfl rfl
theorem ml_X12_500 : Cond.methodLink RX12 500 yX12_signs ∈ TS := mem_T 8 208 rfl rfl
theorem ml_X12_503 : Cond.methodLink RX12 503 yX12_worthAll ∈ TS := mem_T 8 216 rfl rfl
theorem ml_X12_506 : Cond.methodLink RX12 506 yX12_poolOf ∈ TS := mem_T 8 204 rfl rfl
theorem ml_X12_509 : Cond.methodLink RX12 509 yX12_shutOut ∈ TS := mem_T 8 220 rfl rfl
theorem ml_J0_335 : Cond.methodLink RJ0 335 yJ0_coder_7d493 ∈ TS := mem_T 4 43 rfl rfl
theorem ml_J0_492 : Cond.methodLink RJ0 492 yJ0_isLatin1_aae02 ∈ TS := mem_T 3 230 rfl rfl
theorem ml_J0_495 : Cond.methodLink RJ0 495 yJ1_charAt_3b067 ∈ TS := mem_T 3 236 rfl rfl
theorem ml_J0_498 : Cond.methodLink RJ0 498 yJ2_charAt_3b067 ∈ TS := mem_T 4 7 rfl rfl
theorem ml_J0_505 : Cond.methodLink RJ0 505 yJ0_length_8abf5 ∈ TS := mem_T 4 39 rfl rfl
theorem ml_J0_633 : Cond.methodLink RJ0 633 yJ0_indexOf_7cf53 ∈ TS := mem_T 4 35 rfl rfl
theorem ml_J0_637 : Cond.methodLink RJ0 637 yJ1_indexOf_4cfef ∈ TS := mem_T 4 47 rfl rfl
theorem ml_J0_640 : Cond.methodLink RJ0 640 yJ2_indexOf_4cfef ∈ TS := mem_T 4 62 rfl rfl
theorem ml_J0_1059 : Cond.methodLink RJ0 1059 yJ3_checkIndex_8e157 ∈ TS := mem_T 4 4 rfl rfl
theorem ml_J0_1062 : Cond.methodLink RJ0 1062 yJ3_checkFromToIndex_8c36e ∈ TS := mem_T 4 77 rfl rfl
theorem ml_J1_9 : Cond.methodLink RJ1 9 yJ0_checkIndex_df160 ∈ TS := mem_T 3 239 rfl rfl
theorem ml_J1_38 : Cond.methodLink RJ1 38 yJ9_min_7cf53 ∈ TS := mem_T 4 56 rfl rfl
theorem ml_J1_88 : Cond.methodLink RJ1 88 yJ1_canEncode_9a6ad ∈ TS := mem_T 4 50 rfl rfl
theorem ml_J1_92 : Cond.methodLink RJ1 92 yJ9_max_7cf53 ∈ TS := mem_T 4 53 rfl rfl
theorem ml_J1_95 : Cond.methodLink RJ1 95 yJ1_indexOfChar_4cfef ∈ TS := mem_T 4 59 rfl rfl
theorem ml_J2_48 : Cond.methodLink RJ2 48 yJ2_length_9d52b ∈ TS := mem_T 4 13 rfl rfl
theorem ml_J2_67 : Cond.methodLink RJ2 67 yJ2_checkIndex_2214a ∈ TS := mem_T 4 10 rfl rfl
theorem ml_J2_71 : Cond.methodLink RJ2 71 yJ2_getChar_3b067 ∈ TS := mem_T 4 17 rfl rfl
theorem ml_J2_96 : Cond.methodLink RJ2 96 yJ2_checkBoundsBeginEnd_d044e ∈ TS := mem_T 4 71 rfl rfl
theorem ml_J2_157 : Cond.methodLink RJ2 157 yJ11_highSurrogate_5068e ∈ TS := mem_T 4 89 rfl rfl
theorem ml_J2_161 : Cond.methodLink RJ2 161 yJ11_lowSurrogate_5068e ∈ TS := mem_T 4 93 rfl rfl
theorem ml_J2_164 : Cond.methodLink RJ2 164 yJ11_isValidCodePoint_9a6ad ∈ TS := mem_T 4 86 rfl rfl
theorem ml_J2_183 : Cond.methodLink RJ2 183 yJ9_min_7cf53 ∈ TS := mem_T 4 66 rfl rfl
theorem ml_J2_224 : Cond.methodLink RJ2 224 yJ9_max_7cf53 ∈ TS := mem_T 4 65 rfl rfl
theorem ml_J2_228 : Cond.methodLink RJ2 228 yJ2_indexOfChar_4cfef ∈ TS := mem_T 4 68 rfl rfl
theorem ml_J2_232 : Cond.methodLink RJ2 232 yJ2_indexOfSupplementary_4cfef ∈ TS := mem_T 4 83 rfl rfl
theorem ml_J2_241 : Cond.methodLink RJ2 241 yJ0_checkBoundsBeginEnd_23922 ∈ TS := mem_T 4 74 rfl rfl
theorem ml_J2_244 : Cond.methodLink RJ2 244 yJ2_indexOfCharUnsafe_4cfef ∈ TS := mem_T 4 80 rfl rfl
theorem ml_J2_414 : Cond.methodLink RJ2 414 yJ0_checkIndex_df160 ∈ TS := mem_T 4 16 rfl rfl
theorem ml_X11_9 : Cond.methodLinkNest RX11 9 yX5_init "TalkingReels" ∈ NWs := List.mem_filter.mpr ⟨tabs_in 1 (List.mem_of_getElem? (i := 31) rfl), rfl⟩
theorem ml_X11_18 : Cond.methodLinkNest RX11 18 yX3_init "TalkingReels" ∈ NWs := List.mem_filter.mpr ⟨tabs_in 1 (List.mem_of_getElem? (i := 101) rfl), rfl⟩
theorem ml_X11_25 : Cond.methodLinkNest RX11 25 yX8_init "TalkingReels" ∈ NWs := List.mem_filter.mpr ⟨tabs_in 1 (List.mem_of_getElem? (i := 181) rfl), rfl⟩
theorem ml_X11_59 : Cond.methodLinkNest RX11 59 yX7_init "TalkingReels" ∈ NWs := List.mem_filter.mpr ⟨tabs_in 2 (List.mem_of_getElem? (i := 127) rfl), rfl⟩
theorem ml_X11_82 : Cond.methodLinkNest RX11 82 yX9_init "TalkingReels" ∈ NWs := List.mem_filter.mpr ⟨tabs_in 2 (List.mem_of_getElem? (i := 229) rfl), rfl⟩
theorem ml_X0_63 : Cond.methodLinkNest RX0 63 yX11_within "TalkingReels" ∈ NWs := List.mem_filter.mpr ⟨tabs_in 4 (List.mem_of_getElem? (i := 211) rfl), rfl⟩
theorem ml_X1_34 : Cond.methodLinkNest RX1 34 yX11_within "TalkingReels" ∈ NWs := List.mem_filter.mpr ⟨tabs_in 5 (List.mem_of_getElem? (i := 182) rfl), rfl⟩
theorem ml_X2_29 : Cond.methodLinkNest RX2 29 yX6_init "TalkingReels" ∈ NWs := List.mem_filter.mpr ⟨tabs_in 2 (List.mem_of_getElem? (i := 30) rfl), rfl⟩
theorem ml_X3_55 : Cond.methodLinkNest RX3 55 yX11_within "TalkingReels" ∈ NWs := List.mem_filter.mpr ⟨tabs_in 3 (List.mem_of_getElem? (i := 124) rfl), rfl⟩
theorem ml_X3_77 : Cond.methodLinkNest RX3 77 yX11_has "TalkingReels" ∈ NWs := List.mem_filter.mpr ⟨tabs_in 4 (List.mem_of_getElem? (i := 200) rfl), rfl⟩
theorem ml_X4_17 : Cond.methodLinkNest RX4 17 yX6_init "TalkingReels" ∈ NWs := List.mem_filter.mpr ⟨tabs_in 1 (List.mem_of_getElem? (i := 217) rfl), rfl⟩
theorem ml_X4_65 : Cond.methodLinkNest RX4 65 yX11_within "TalkingReels" ∈ NWs := List.mem_filter.mpr ⟨tabs_in 4 (List.mem_of_getElem? (i := 109) rfl), rfl⟩
theorem ml_X5_51 : Cond.methodLinkNest RX5 51 yX11_within "TalkingReels" ∈ NWs := List.mem_filter.mpr ⟨tabs_in 3 (List.mem_of_getElem? (i := 58) rfl), rfl⟩
theorem ml_X7_29 : Cond.methodLinkNest RX7 29 yX11_within "TalkingReels" ∈ NWs := List.mem_filter.mpr ⟨tabs_in 5 (List.mem_of_getElem? (i := 59) rfl), rfl⟩
theorem ml_X7_58 : Cond.methodLinkNest RX7 58 yX11_has "TalkingReels" ∈ NWs := List.mem_filter.mpr ⟨tabs_in 5 (List.mem_of_getElem? (i := 90) rfl), rfl⟩
theorem ml_X8_32 : Cond.methodLinkNest RX8 32 yX11_within "TalkingReels" ∈ NWs := List.mem_filter.mpr ⟨tabs_in 3 (List.mem_of_getElem? (i := 187) rfl), rfl⟩
theorem ml_X9_20 : Cond.methodLinkNest RX9 20 yX11_within "TalkingReels" ∈ NWs := List.mem_filter.mpr ⟨tabs_in 5 (List.mem_of_getElem? (i := 229) rfl), rfl⟩
theorem ml_X9_28 : Cond.methodLinkNest RX9 28 yX11_has "TalkingReels" ∈ NWs := List.mem_filter.mpr ⟨tabs_in 6 (List.mem_of_getElem? (i := 14) rfl), rfl⟩
theorem ml_X10_37 : Cond.methodLinkNest RX10 37 yX11_within "TalkingReels" ∈ NWs := List.mem_filter.mpr ⟨tabs_in 5 (List.mem_of_getElem? (i := 140) rfl), rfl⟩
theorem ml_X10_68 : Cond.methodLinkNest RX10 68 yX11_has "TalkingReels" ∈ NWs := List.mem_filter.mpr ⟨tabs_in 5 (List.mem_of_getElem? (i := 154) rfl), rfl⟩
theorem kc_X1_38 : Cond.constant RX1 38 (99999) ∈ TS := mem_T 5 183 rfl rfl
theorem kc_X2_54 : Cond.constant RX2 54 (99999) ∈ TS := mem_T 4 189 rfl rfl
theorem kc_X12_422 : Cond.constant RX12 422 (99999) ∈ TS := mem_T 8 71 rfl rfl
theorem kc_J11_76 : Cond.constant RJ11 76 (56320) ∈ TS := mem_T 4 96 rfl rfl
theorem kc_J11_110 : Cond.constant RJ11 110 (55232) ∈ TS := mem_T 4 92 rfl rfl
theorem kc_J6_265 : Cond.constant RJ6 265 (1431655765) ∈ TS := mem_T 5 83 rfl rfl
theorem kc_J6_266 : Cond.constant RJ6 266 (858993459) ∈ TS := mem_T 5 84 rfl rfl
theorem kc_J6_267 : Cond.constant RJ6 267 (252645135) ∈ TS := mem_T 5 85 rfl rfl
theorem kc_J2_227 : Cond.constant RJ2 227 (65536) ∈ TS := mem_T 4 67 rfl rfl
theorem kc_X11_269 : Cond.constantLong RX11 269 (-1) ∈ TS := mem_T 5 196 rfl rfl
theorem kc_X1_54 : Cond.constantLong RX1 54 (100) ∈ TS := mem_T 5 217 rfl rfl
theorem kc_X3_80 : Cond.constantLong RX3 80 (-1) ∈ TS := mem_T 5 42 rfl rfl
theorem kc_X12_449 : Cond.constantLong RX12 449 (-1) ∈ TS := mem_T 8 116 rfl rfl
theorem kc_X12_482 : Cond.constantLong RX12 482 (100) ∈ TS := mem_T 8 187 rfl rfl
