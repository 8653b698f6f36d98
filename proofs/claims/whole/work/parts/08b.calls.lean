def y_hh (m : Nat) : List (Nat × Nat × Nat × Nat) := match m with
  | 240 => [(0, 9, 12, 13)]
  | 241 => [(0, 9, 12, 13)]
  | 242 => [(0, 9, 12, 13)]
  | 243 => [(0, 10, 13, 25)]
  | 244 => [(0, 10, 13, 25), (0, 10, 17, 13)]
  | 245 => [(0, 9, 12, 13)]
  | 246 => [(0, 12, 15, 25), (0, 12, 19, 13)]
  | 247 => [(0, 14, 17, 25), (0, 14, 21, 13)]
  | 248 => [(0, 10, 13, 25), (0, 10, 17, 13)]
  | 249 => [(0, 12, 15, 25), (0, 12, 19, 13)]
  | 250 => [(0, 12, 15, 25)]
  | 251 => [(0, 10, 13, 25)]
  | 252 => [(0, 10, 13, 25)]
  | 253 => [(0, 14, 17, 25), (0, 14, 21, 13)]
  | 254 => [(0, 10, 13, 25), (0, 10, 17, 13)]
  | 255 => [(0, 10, 13, 25), (0, 10, 17, 13)]
  | 256 => [(0, 12, 15, 25), (0, 12, 19, 13)]
  | 257 => [(0, 12, 15, 25), (0, 12, 19, 13)]
  | 258 => [(0, 14, 17, 25), (0, 14, 21, 13)]
  | 259 => [(0, 10, 13, 25), (0, 10, 17, 13)]
  | 260 => [(0, 10, 13, 25)]
  | 261 => [(0, 10, 13, 25)]
  | 262 => [(0, 10, 13, 25), (0, 10, 17, 13)]
  | 263 => [(0, 12, 15, 25), (0, 12, 19, 13)]
  | 264 => [(0, 9, 12, 25)]
  | 265 => [(0, 10, 13, 25), (0, 10, 17, 13)]
  | 266 => [(0, 9, 12, 25)]
  | 267 => [(0, 8, 11, 25)]
  | _ => []
/-- a method that is called: its code by the tables, with a table of handlers or without -/
def y_cdok (m : Nat) : Prop := (m < 240 ∨ 269 ≤ m) ∧ Cond.code (y_nm m) (y_by m) (t_maxl m) (y_rt m) ∈ lw_tbl ∨ (240 ≤ m ∧ m < 269) ∧ Cond.codeWith (y_nm m) (y_by m) (t_maxl m) (y_rt m) (y_hh m) ∈ lw_tbl
theorem y_cd_0 : y_cdok 0 := Or.inl ⟨by decide, y_w 54 (by decide +kernel)⟩
theorem y_cd_1 : y_cdok 1 := Or.inl ⟨by decide, y_w 443 (by decide +kernel)⟩
theorem y_cd_2 : y_cdok 2 := Or.inl ⟨by decide, y_w 447 (by decide +kernel)⟩
theorem y_cd_3 : y_cdok 3 := Or.inl ⟨by decide, y_w 855 (by decide +kernel)⟩
theorem y_cd_4 : y_cdok 4 := Or.inl ⟨by decide, y_w 859 (by decide +kernel)⟩
theorem y_cd_5 : y_cdok 5 := Or.inl ⟨by decide, y_w 916 (by decide +kernel)⟩
theorem y_cd_6 : y_cdok 6 := Or.inl ⟨by decide, y_w 927 (by decide +kernel)⟩
theorem y_cd_7 : y_cdok 7 := Or.inl ⟨by decide, y_w 427 (by decide +kernel)⟩
theorem y_cd_8 : y_cdok 8 := Or.inl ⟨by decide, y_w 199 (by decide +kernel)⟩
theorem y_cd_9 : y_cdok 9 := Or.inl ⟨by decide, y_w 482 (by decide +kernel)⟩
theorem y_cd_10 : y_cdok 10 := Or.inl ⟨by decide, y_w 1035 (by decide +kernel)⟩
theorem y_cd_11 : y_cdok 11 := Or.inl ⟨by decide, y_w 326 (by decide +kernel)⟩
theorem y_cd_12 : y_cdok 12 := Or.inl ⟨by decide, y_w 1121 (by decide +kernel)⟩
theorem y_cd_13 : y_cdok 13 := Or.inl ⟨by decide, y_w 1126 (by decide +kernel)⟩
theorem y_cd_14 : y_cdok 14 := Or.inl ⟨by decide, y_w 1134 (by decide +kernel)⟩
theorem y_cd_15 : y_cdok 15 := Or.inl ⟨by decide, y_w 1130 (by decide +kernel)⟩
theorem y_cd_16 : y_cdok 16 := Or.inl ⟨by decide, y_w 1139 (by decide +kernel)⟩
theorem y_cd_17 : y_cdok 17 := Or.inl ⟨by decide, y_w 1143 (by decide +kernel)⟩
theorem y_cd_18 : y_cdok 18 := Or.inl ⟨by decide, y_w 1153 (by decide +kernel)⟩
theorem y_cd_19 : y_cdok 19 := Or.inl ⟨by decide, y_w 1157 (by decide +kernel)⟩
theorem y_cd_20 : y_cdok 20 := Or.inl ⟨by decide, y_w 1161 (by decide +kernel)⟩
theorem y_cd_21 : y_cdok 21 := Or.inl ⟨by decide, y_w 1172 (by decide +kernel)⟩
theorem y_cd_22 : y_cdok 22 := Or.inl ⟨by decide, y_w 74 (by decide +kernel)⟩
theorem y_cd_23 : y_cdok 23 := Or.inl ⟨by decide, y_w 850 (by decide +kernel)⟩
theorem y_cd_24 : y_cdok 24 := Or.inl ⟨by decide, y_w 416 (by decide +kernel)⟩
theorem y_cd_25 : y_cdok 25 := Or.inl ⟨by decide, y_w 162 (by decide +kernel)⟩
theorem y_cd_26 : y_cdok 26 := Or.inl ⟨by decide, y_w 168 (by decide +kernel)⟩
theorem y_cd_27 : y_cdok 27 := Or.inl ⟨by decide, y_w 470 (by decide +kernel)⟩
theorem y_cd_28 : y_cdok 28 := Or.inl ⟨by decide, y_w 466 (by decide +kernel)⟩
theorem y_cd_29 : y_cdok 29 := Or.inl ⟨by decide, y_w 495 (by decide +kernel)⟩
theorem y_cd_30 : y_cdok 30 := Or.inl ⟨by decide, y_w 491 (by decide +kernel)⟩
theorem y_cd_31 : y_cdok 31 := Or.inl ⟨by decide, y_w 569 (by decide +kernel)⟩
theorem y_cd_32 : y_cdok 32 := Or.inl ⟨by decide, y_w 573 (by decide +kernel)⟩
theorem y_cd_33 : y_cdok 33 := Or.inl ⟨by decide, y_w 1013 (by decide +kernel)⟩
theorem y_cd_34 : y_cdok 34 := Or.inl ⟨by decide, y_w 561 (by decide +kernel)⟩
theorem y_cd_35 : y_cdok 35 := Or.inl ⟨by decide, y_w 556 (by decide +kernel)⟩
theorem y_cd_36 : y_cdok 36 := Or.inl ⟨by decide, y_w 1002 (by decide +kernel)⟩
theorem y_cd_37 : y_cdok 37 := Or.inl ⟨by decide, y_w 986 (by decide +kernel)⟩
theorem y_cd_38 : y_cdok 38 := Or.inl ⟨by decide, y_w 990 (by decide +kernel)⟩
theorem y_cd_39 : y_cdok 39 := Or.inl ⟨by decide, y_w 1288 (by decide +kernel)⟩
theorem y_cd_40 : y_cdok 40 := Or.inl ⟨by decide, y_w 565 (by decide +kernel)⟩
theorem y_cd_41 : y_cdok 41 := Or.inl ⟨by decide, y_w 150 (by decide +kernel)⟩
theorem y_cd_42 : y_cdok 42 := Or.inl ⟨by decide, y_w 453 (by decide +kernel)⟩
theorem y_cd_43 : y_cdok 43 := Or.inl ⟨by decide, y_w 1053 (by decide +kernel)⟩
theorem y_cd_44 : y_cdok 44 := Or.inl ⟨by decide, y_w 1058 (by decide +kernel)⟩
theorem y_cd_45 : y_cdok 45 := Or.inl ⟨by decide, y_w 1063 (by decide +kernel)⟩
theorem y_cd_46 : y_cdok 46 := Or.inl ⟨by decide, y_w 1067 (by decide +kernel)⟩
theorem y_cd_47 : y_cdok 47 := Or.inl ⟨by decide, y_w 1079 (by decide +kernel)⟩
theorem y_cd_48 : y_cdok 48 := Or.inl ⟨by decide, y_w 1094 (by decide +kernel)⟩
theorem y_cd_49 : y_cdok 49 := Or.inl ⟨by decide, y_w 1102 (by decide +kernel)⟩
theorem y_cd_50 : y_cdok 50 := Or.inl ⟨by decide, y_w 1106 (by decide +kernel)⟩
theorem y_cd_51 : y_cdok 51 := Or.inl ⟨by decide, y_w 1098 (by decide +kernel)⟩
theorem y_cd_52 : y_cdok 52 := Or.inl ⟨by decide, y_w 1075 (by decide +kernel)⟩
theorem y_cd_53 : y_cdok 53 := Or.inl ⟨by decide, y_w 1083 (by decide +kernel)⟩
theorem y_cd_54 : y_cdok 54 := Or.inl ⟨by decide, y_w 797 (by decide +kernel)⟩
theorem y_cd_55 : y_cdok 55 := Or.inl ⟨by decide, y_w 511 (by decide +kernel)⟩
theorem y_cd_56 : y_cdok 56 := Or.inl ⟨by decide, y_w 503 (by decide +kernel)⟩
theorem y_cd_57 : y_cdok 57 := Or.inl ⟨by decide, y_w 515 (by decide +kernel)⟩
theorem y_cd_58 : y_cdok 58 := Or.inl ⟨by decide, y_w 523 (by decide +kernel)⟩
theorem y_cd_59 : y_cdok 59 := Or.inl ⟨by decide, y_w 537 (by decide +kernel)⟩
theorem y_cd_60 : y_cdok 60 := Or.inl ⟨by decide, y_w 519 (by decide +kernel)⟩
theorem y_cd_61 : y_cdok 61 := Or.inl ⟨by decide, y_w 541 (by decide +kernel)⟩
theorem y_cd_62 : y_cdok 62 := Or.inl ⟨by decide, y_w 38 (by decide +kernel)⟩
theorem y_cd_63 : y_cdok 63 := Or.inl ⟨by decide, y_w 404 (by decide +kernel)⟩
theorem y_cd_64 : y_cdok 64 := Or.inl ⟨by decide, y_w 94 (by decide +kernel)⟩
theorem y_cd_65 : y_cdok 65 := Or.inl ⟨by decide, y_w 670 (by decide +kernel)⟩
theorem y_cd_66 : y_cdok 66 := Or.inl ⟨by decide, y_w 676 (by decide +kernel)⟩
theorem y_cd_67 : y_cdok 67 := Or.inl ⟨by decide, y_w 767 (by decide +kernel)⟩
theorem y_cd_68 : y_cdok 68 := Or.inl ⟨by decide, y_w 793 (by decide +kernel)⟩
theorem y_cd_69 : y_cdok 69 := Or.inl ⟨by decide, y_w 772 (by decide +kernel)⟩
theorem y_cd_70 : y_cdok 70 := Or.inl ⟨by decide, y_w 780 (by decide +kernel)⟩
theorem y_cd_71 : y_cdok 71 := Or.inl ⟨by decide, y_w 788 (by decide +kernel)⟩
theorem y_cd_72 : y_cdok 72 := Or.inl ⟨by decide, y_w 784 (by decide +kernel)⟩
theorem y_cd_73 : y_cdok 73 := Or.inl ⟨by decide, y_w 752 (by decide +kernel)⟩
theorem y_cd_74 : y_cdok 74 := Or.inl ⟨by decide, y_w 681 (by decide +kernel)⟩
theorem y_cd_75 : y_cdok 75 := Or.inl ⟨by decide, y_w 689 (by decide +kernel)⟩
theorem y_cd_76 : y_cdok 76 := Or.inl ⟨by decide, y_w 685 (by decide +kernel)⟩
theorem y_cd_77 : y_cdok 77 := Or.inl ⟨by decide, y_w 762 (by decide +kernel)⟩
theorem y_cd_78 : y_cdok 78 := Or.inl ⟨by decide, y_w 693 (by decide +kernel)⟩
theorem y_cd_79 : y_cdok 79 := Or.inl ⟨by decide, y_w 748 (by decide +kernel)⟩
theorem y_cd_80 : y_cdok 80 := Or.inl ⟨by decide, y_w 156 (by decide +kernel)⟩
theorem y_cd_81 : y_cdok 81 := Or.inl ⟨by decide, y_w 439 (by decide +kernel)⟩
theorem y_cd_82 : y_cdok 82 := Or.inl ⟨by decide, y_w 499 (by decide +kernel)⟩
theorem y_cd_83 : y_cdok 83 := Or.inl ⟨by decide, y_w 956 (by decide +kernel)⟩
theorem y_cd_84 : y_cdok 84 := Or.inl ⟨by decide, y_w 461 (by decide +kernel)⟩
theorem y_cd_85 : y_cdok 85 := Or.inl ⟨by decide, y_w 1272 (by decide +kernel)⟩
theorem y_cd_86 : y_cdok 86 := Or.inl ⟨by decide, y_w 1276 (by decide +kernel)⟩
theorem y_cd_87 : y_cdok 87 := Or.inl ⟨by decide, y_w 1024 (by decide +kernel)⟩
theorem y_cd_88 : y_cdok 88 := Or.inl ⟨by decide, y_w 935 (by decide +kernel)⟩
theorem y_cd_89 : y_cdok 89 := Or.inl ⟨by decide, y_w 474 (by decide +kernel)⟩
theorem y_cd_90 : y_cdok 90 := Or.inl ⟨by decide, y_w 478 (by decide +kernel)⟩
theorem y_cd_91 : y_cdok 91 := Or.inl ⟨by decide, y_w 486 (by decide +kernel)⟩
theorem y_cd_92 : y_cdok 92 := Or.inl ⟨by decide, y_w 507 (by decide +kernel)⟩
theorem y_cd_93 : y_cdok 93 := Or.inl ⟨by decide, y_w 528 (by decide +kernel)⟩
theorem y_cd_94 : y_cdok 94 := Or.inl ⟨by decide, y_w 545 (by decide +kernel)⟩
theorem y_cd_95 : y_cdok 95 := Or.inl ⟨by decide, y_w 533 (by decide +kernel)⟩
theorem y_cd_96 : y_cdok 96 := Or.inl ⟨by decide, y_w 302 (by decide +kernel)⟩
theorem y_cd_97 : y_cdok 97 := Or.inl ⟨by decide, y_w 1231 (by decide +kernel)⟩
theorem y_cd_98 : y_cdok 98 := Or.inl ⟨by decide, y_w 1239 (by decide +kernel)⟩
theorem y_cd_99 : y_cdok 99 := Or.inl ⟨by decide, y_w 1244 (by decide +kernel)⟩
theorem y_cd_100 : y_cdok 100 := Or.inl ⟨by decide, y_w 1249 (by decide +kernel)⟩
theorem y_cd_101 : y_cdok 101 := Or.inl ⟨by decide, y_w 1253 (by decide +kernel)⟩
theorem y_cd_102 : y_cdok 102 := Or.inl ⟨by decide, y_w 1257 (by decide +kernel)⟩
theorem y_cd_103 : y_cdok 103 := Or.inl ⟨by decide, y_w 1261 (by decide +kernel)⟩
theorem y_cd_104 : y_cdok 104 := Or.inl ⟨by decide, y_w 30 (by decide +kernel)⟩
theorem y_cd_105 : y_cdok 105 := Or.inl ⟨by decide, y_w 400 (by decide +kernel)⟩
theorem y_cd_106 : y_cdok 106 := Or.inl ⟨by decide, y_w 592 (by decide +kernel)⟩
theorem y_cd_107 : y_cdok 107 := Or.inl ⟨by decide, y_w 408 (by decide +kernel)⟩
theorem y_cd_108 : y_cdok 108 := Or.inl ⟨by decide, y_w 867 (by decide +kernel)⟩
theorem y_cd_109 : y_cdok 109 := Or.inl ⟨by decide, y_w 666 (by decide +kernel)⟩
theorem y_cd_110 : y_cdok 110 := Or.inl ⟨by decide, y_w 874 (by decide +kernel)⟩
theorem y_cd_111 : y_cdok 111 := Or.inl ⟨by decide, y_w 882 (by decide +kernel)⟩
theorem y_cd_112 : y_cdok 112 := Or.inl ⟨by decide, y_w 923 (by decide +kernel)⟩
theorem y_cd_113 : y_cdok 113 := Or.inl ⟨by decide, y_w 412 (by decide +kernel)⟩
theorem y_cd_114 : y_cdok 114 := Or.inl ⟨by decide, y_w 431 (by decide +kernel)⟩
theorem y_cd_115 : y_cdok 115 := Or.inl ⟨by decide, y_w 944 (by decide +kernel)⟩
theorem y_cd_116 : y_cdok 116 := Or.inl ⟨by decide, y_w 951 (by decide +kernel)⟩
theorem y_cd_117 : y_cdok 117 := Or.inl ⟨by decide, y_w 963 (by decide +kernel)⟩
theorem y_cd_118 : y_cdok 118 := Or.inl ⟨by decide, y_w 972 (by decide +kernel)⟩
theorem y_cd_119 : y_cdok 119 := Or.inl ⟨by decide, y_w 981 (by decide +kernel)⟩
theorem y_cd_120 : y_cdok 120 := Or.inl ⟨by decide, y_w 998 (by decide +kernel)⟩
theorem y_cd_121 : y_cdok 121 := Or.inl ⟨by decide, y_w 1009 (by decide +kernel)⟩
theorem y_cd_122 : y_cdok 122 := Or.inl ⟨by decide, y_w 1020 (by decide +kernel)⟩
theorem y_cd_123 : y_cdok 123 := Or.inl ⟨by decide, y_w 1031 (by decide +kernel)⟩
theorem y_cd_124 : y_cdok 124 := Or.inl ⟨by decide, y_w 1042 (by decide +kernel)⟩
theorem y_cd_125 : y_cdok 125 := Or.inl ⟨by decide, y_w 1049 (by decide +kernel)⟩
theorem y_cd_126 : y_cdok 126 := Or.inl ⟨by decide, y_w 1090 (by decide +kernel)⟩
theorem y_cd_127 : y_cdok 127 := Or.inl ⟨by decide, y_w 1113 (by decide +kernel)⟩
theorem y_cd_128 : y_cdok 128 := Or.inl ⟨by decide, y_w 1168 (by decide +kernel)⟩
theorem y_cd_129 : y_cdok 129 := Or.inl ⟨by decide, y_w 1179 (by decide +kernel)⟩
theorem y_cd_130 : y_cdok 130 := Or.inl ⟨by decide, y_w 1186 (by decide +kernel)⟩
theorem y_cd_131 : y_cdok 131 := Or.inl ⟨by decide, y_w 457 (by decide +kernel)⟩
theorem y_cd_132 : y_cdok 132 := Or.inl ⟨by decide, y_w 1194 (by decide +kernel)⟩
theorem y_cd_133 : y_cdok 133 := Or.inl ⟨by decide, y_w 1202 (by decide +kernel)⟩
theorem y_cd_134 : y_cdok 134 := Or.inl ⟨by decide, y_w 1209 (by decide +kernel)⟩
theorem y_cd_135 : y_cdok 135 := Or.inl ⟨by decide, y_w 1213 (by decide +kernel)⟩
theorem y_cd_136 : y_cdok 136 := Or.inl ⟨by decide, y_w 1220 (by decide +kernel)⟩
theorem y_cd_137 : y_cdok 137 := Or.inl ⟨by decide, y_w 1227 (by decide +kernel)⟩
theorem y_cd_138 : y_cdok 138 := Or.inl ⟨by decide, y_w 1268 (by decide +kernel)⟩
theorem y_cd_139 : y_cdok 139 := Or.inl ⟨by decide, y_w 1283 (by decide +kernel)⟩
theorem y_cd_140 : y_cdok 140 := Or.inl ⟨by decide, y_w 584 (by decide +kernel)⟩
theorem y_cd_141 : y_cdok 141 := Or.inl ⟨by decide, y_w 435 (by decide +kernel)⟩
theorem y_cd_142 : y_cdok 142 := Or.inl ⟨by decide, y_w 931 (by decide +kernel)⟩
theorem y_cd_143 : y_cdok 143 := Or.inl ⟨by decide, y_w 890 (by decide +kernel)⟩
theorem y_cd_144 : y_cdok 144 := Or.inl ⟨by decide, y_w 886 (by decide +kernel)⟩
theorem y_cd_145 : y_cdok 145 := Or.inl ⟨by decide, y_w 894 (by decide +kernel)⟩
theorem y_cd_146 : y_cdok 146 := Or.inl ⟨by decide, y_w 596 (by decide +kernel)⟩
theorem y_cd_147 : y_cdok 147 := Or.inl ⟨by decide, y_w 1117 (by decide +kernel)⟩
theorem y_cd_148 : y_cdok 148 := Or.inl ⟨by decide, y_w 696 (by decide +kernel)⟩
theorem y_cd_149 : y_cdok 149 := Or.inl ⟨by decide, y_w 755 (by decide +kernel)⟩
theorem y_cd_150 : y_cdok 150 := Or.inl ⟨by decide, y_w 549 (by decide +kernel)⟩
theorem y_cd_151 : y_cdok 151 := Or.inl ⟨by decide, y_w 579 (by decide +kernel)⟩
theorem y_cd_152 : y_cdok 152 := Or.inl ⟨by decide, y_w 1293 (by decide +kernel)⟩
theorem y_cd_153 : y_cdok 153 := Or.inl ⟨by decide, y_w 1460 (by decide +kernel)⟩
theorem y_cd_154 : y_cdok 154 := Or.inl ⟨by decide, y_w 1475 (by decide +kernel)⟩
theorem y_cd_155 : y_cdok 155 := Or.inl ⟨by decide, y_w 1471 (by decide +kernel)⟩
theorem y_cd_156 : y_cdok 156 := Or.inl ⟨by decide, y_w 1714 (by decide +kernel)⟩
theorem y_cd_157 : y_cdok 157 := Or.inl ⟨by decide, y_w 1464 (by decide +kernel)⟩
theorem y_cd_158 : y_cdok 158 := Or.inl ⟨by decide, y_w 1504 (by decide +kernel)⟩
theorem y_cd_159 : y_cdok 159 := Or.inl ⟨by decide, y_w 1500 (by decide +kernel)⟩
theorem y_cd_160 : y_cdok 160 := Or.inl ⟨by decide, y_w 1488 (by decide +kernel)⟩
theorem y_cd_161 : y_cdok 161 := Or.inl ⟨by decide, y_w 1513 (by decide +kernel)⟩
theorem y_cd_162 : y_cdok 162 := Or.inl ⟨by decide, y_w 1520 (by decide +kernel)⟩
theorem y_cd_163 : y_cdok 163 := Or.inl ⟨by decide, y_w 1507 (by decide +kernel)⟩
theorem y_cd_164 : y_cdok 164 := Or.inl ⟨by decide, y_w 1517 (by decide +kernel)⟩
theorem y_cd_165 : y_cdok 165 := Or.inl ⟨by decide, y_w 1496 (by decide +kernel)⟩
theorem y_cd_166 : y_cdok 166 := Or.inl ⟨by decide, y_w 1492 (by decide +kernel)⟩
theorem y_cd_167 : y_cdok 167 := Or.inl ⟨by decide, y_w 1484 (by decide +kernel)⟩
theorem y_cd_168 : y_cdok 168 := Or.inl ⟨by decide, y_w 1527 (by decide +kernel)⟩
theorem y_cd_169 : y_cdok 169 := Or.inl ⟨by decide, y_w 1551 (by decide +kernel)⟩
theorem y_cd_170 : y_cdok 170 := Or.inl ⟨by decide, y_w 1555 (by decide +kernel)⟩
theorem y_cd_171 : y_cdok 171 := Or.inl ⟨by decide, y_w 1548 (by decide +kernel)⟩
theorem y_cd_172 : y_cdok 172 := Or.inl ⟨by decide, y_w 1539 (by decide +kernel)⟩
theorem y_cd_173 : y_cdok 173 := Or.inl ⟨by decide, y_w 1535 (by decide +kernel)⟩
theorem y_cd_174 : y_cdok 174 := Or.inl ⟨by decide, y_w 1531 (by decide +kernel)⟩
theorem y_cd_175 : y_cdok 175 := Or.inl ⟨by decide, y_w 1479 (by decide +kernel)⟩
theorem y_cd_176 : y_cdok 176 := Or.inl ⟨by decide, y_w 1468 (by decide +kernel)⟩
theorem y_cd_177 : y_cdok 177 := Or.inl ⟨by decide, y_w 1564 (by decide +kernel)⟩
theorem y_cd_178 : y_cdok 178 := Or.inl ⟨by decide, y_w 1568 (by decide +kernel)⟩
theorem y_cd_179 : y_cdok 179 := Or.inl ⟨by decide, y_w 1560 (by decide +kernel)⟩
theorem y_cd_180 : y_cdok 180 := Or.inl ⟨by decide, y_w 1572 (by decide +kernel)⟩
theorem y_cd_181 : y_cdok 181 := Or.inl ⟨by decide, y_w 1576 (by decide +kernel)⟩
theorem y_cd_182 : y_cdok 182 := Or.inl ⟨by decide, y_w 1587 (by decide +kernel)⟩
theorem y_cd_183 : y_cdok 183 := Or.inl ⟨by decide, y_w 1584 (by decide +kernel)⟩
theorem y_cd_184 : y_cdok 184 := Or.inl ⟨by decide, y_w 1591 (by decide +kernel)⟩
theorem y_cd_185 : y_cdok 185 := Or.inl ⟨by decide, y_w 1580 (by decide +kernel)⟩
theorem y_cd_186 : y_cdok 186 := Or.inl ⟨by decide, y_w 1635 (by decide +kernel)⟩
theorem y_cd_187 : y_cdok 187 := Or.inl ⟨by decide, y_w 1623 (by decide +kernel)⟩
theorem y_cd_188 : y_cdok 188 := Or.inl ⟨by decide, y_w 1615 (by decide +kernel)⟩
theorem y_cd_189 : y_cdok 189 := Or.inl ⟨by decide, y_w 1619 (by decide +kernel)⟩
theorem y_cd_190 : y_cdok 190 := Or.inl ⟨by decide, y_w 1630 (by decide +kernel)⟩
theorem y_cd_191 : y_cdok 191 := Or.inl ⟨by decide, y_w 1611 (by decide +kernel)⟩
theorem y_cd_192 : y_cdok 192 := Or.inl ⟨by decide, y_w 1627 (by decide +kernel)⟩
theorem y_cd_193 : y_cdok 193 := Or.inl ⟨by decide, y_w 1607 (by decide +kernel)⟩
theorem y_cd_194 : y_cdok 194 := Or.inl ⟨by decide, y_w 1603 (by decide +kernel)⟩
theorem y_cd_195 : y_cdok 195 := Or.inl ⟨by decide, y_w 1711 (by decide +kernel)⟩
theorem y_cd_196 : y_cdok 196 := Or.inl ⟨by decide, y_w 1722 (by decide +kernel)⟩
theorem y_cd_197 : y_cdok 197 := Or.inl ⟨by decide, y_w 1599 (by decide +kernel)⟩
theorem y_cd_198 : y_cdok 198 := Or.inl ⟨by decide, y_w 1643 (by decide +kernel)⟩
theorem y_cd_199 : y_cdok 199 := Or.inl ⟨by decide, y_w 1639 (by decide +kernel)⟩
theorem y_cd_200 : y_cdok 200 := Or.inl ⟨by decide, y_w 1595 (by decide +kernel)⟩
theorem y_cd_201 : y_cdok 201 := Or.inl ⟨by decide, y_w 1647 (by decide +kernel)⟩
theorem y_cd_202 : y_cdok 202 := Or.inl ⟨by decide, y_w 1655 (by decide +kernel)⟩
theorem y_cd_203 : y_cdok 203 := Or.inl ⟨by decide, y_w 1651 (by decide +kernel)⟩
theorem y_cd_204 : y_cdok 204 := Or.inl ⟨by decide, y_w 1659 (by decide +kernel)⟩
theorem y_cd_205 : y_cdok 205 := Or.inl ⟨by decide, y_w 1663 (by decide +kernel)⟩
theorem y_cd_206 : y_cdok 206 := Or.inl ⟨by decide, y_w 1671 (by decide +kernel)⟩
theorem y_cd_207 : y_cdok 207 := Or.inl ⟨by decide, y_w 1675 (by decide +kernel)⟩
theorem y_cd_208 : y_cdok 208 := Or.inl ⟨by decide, y_w 1667 (by decide +kernel)⟩
theorem y_cd_209 : y_cdok 209 := Or.inl ⟨by decide, y_w 1679 (by decide +kernel)⟩
theorem y_cd_210 : y_cdok 210 := Or.inl ⟨by decide, y_w 1683 (by decide +kernel)⟩
theorem y_cd_211 : y_cdok 211 := Or.inl ⟨by decide, y_w 1687 (by decide +kernel)⟩
theorem y_cd_212 : y_cdok 212 := Or.inl ⟨by decide, y_w 1691 (by decide +kernel)⟩
theorem y_cd_213 : y_cdok 213 := Or.inl ⟨by decide, y_w 1695 (by decide +kernel)⟩
theorem y_cd_214 : y_cdok 214 := Or.inl ⟨by decide, y_w 1707 (by decide +kernel)⟩
theorem y_cd_215 : y_cdok 215 := Or.inl ⟨by decide, y_w 1703 (by decide +kernel)⟩
theorem y_cd_216 : y_cdok 216 := Or.inl ⟨by decide, y_w 1699 (by decide +kernel)⟩
theorem y_cd_217 : y_cdok 217 := Or.inl ⟨by decide, y_w 1718 (by decide +kernel)⟩
theorem y_cd_218 : y_cdok 218 := Or.inl ⟨by decide, y_w 1734 (by decide +kernel)⟩
theorem y_cd_219 : y_cdok 219 := Or.inl ⟨by decide, y_w 1730 (by decide +kernel)⟩
theorem y_cd_220 : y_cdok 220 := Or.inl ⟨by decide, y_w 1726 (by decide +kernel)⟩
theorem y_cd_221 : y_cdok 221 := Or.inl ⟨by decide, y_w 1746 (by decide +kernel)⟩
theorem y_cd_222 : y_cdok 222 := Or.inl ⟨by decide, y_w 1742 (by decide +kernel)⟩
theorem y_cd_223 : y_cdok 223 := Or.inl ⟨by decide, y_w 1750 (by decide +kernel)⟩
theorem y_cd_224 : y_cdok 224 := Or.inl ⟨by decide, y_w 1755 (by decide +kernel)⟩
theorem y_cd_225 : y_cdok 225 := Or.inl ⟨by decide, y_w 1738 (by decide +kernel)⟩
theorem y_cd_226 : y_cdok 226 := Or.inl ⟨by decide, y_w 1759 (by decide +kernel)⟩
theorem y_cd_227 : y_cdok 227 := Or.inl ⟨by decide, y_w 1763 (by decide +kernel)⟩
theorem y_cd_228 : y_cdok 228 := Or.inl ⟨by decide, y_w 1767 (by decide +kernel)⟩
theorem y_cd_229 : y_cdok 229 := Or.inl ⟨by decide, y_w 1771 (by decide +kernel)⟩
theorem y_cd_230 : y_cdok 230 := Or.inl ⟨by decide, y_w 1775 (by decide +kernel)⟩
theorem y_cd_231 : y_cdok 231 := Or.inl ⟨by decide, y_w 1779 (by decide +kernel)⟩
theorem y_cd_232 : y_cdok 232 := Or.inl ⟨by decide, y_w 1783 (by decide +kernel)⟩
theorem y_cd_233 : y_cdok 233 := Or.inl ⟨by decide, y_w 1799 (by decide +kernel)⟩
theorem y_cd_234 : y_cdok 234 := Or.inl ⟨by decide, y_w 1795 (by decide +kernel)⟩
theorem y_cd_235 : y_cdok 235 := Or.inl ⟨by decide, y_w 1791 (by decide +kernel)⟩
theorem y_cd_236 : y_cdok 236 := Or.inl ⟨by decide, y_w 1787 (by decide +kernel)⟩
theorem y_cd_237 : y_cdok 237 := Or.inl ⟨by decide, y_w 1803 (by decide +kernel)⟩
theorem y_cd_238 : y_cdok 238 := Or.inl ⟨by decide, y_w 1807 (by decide +kernel)⟩
theorem y_cd_239 : y_cdok 239 := Or.inl ⟨by decide, y_w 1812 (by decide +kernel)⟩
theorem y_cd_240 : y_cdok 240 := Or.inr ⟨by decide, y_w 587 (by decide +kernel)⟩
theorem y_cd_241 : y_cdok 241 := Or.inr ⟨by decide, y_w 863 (by decide +kernel)⟩
theorem y_cd_242 : y_cdok 242 := Or.inr ⟨by decide, y_w 870 (by decide +kernel)⟩
theorem y_cd_243 : y_cdok 243 := Or.inr ⟨by decide, y_w 877 (by decide +kernel)⟩
theorem y_cd_244 : y_cdok 244 := Or.inr ⟨by decide, y_w 919 (by decide +kernel)⟩
theorem y_cd_245 : y_cdok 245 := Or.inr ⟨by decide, y_w 940 (by decide +kernel)⟩
theorem y_cd_246 : y_cdok 246 := Or.inr ⟨by decide, y_w 947 (by decide +kernel)⟩
theorem y_cd_247 : y_cdok 247 := Or.inr ⟨by decide, y_w 959 (by decide +kernel)⟩
theorem y_cd_248 : y_cdok 248 := Or.inr ⟨by decide, y_w 968 (by decide +kernel)⟩
theorem y_cd_249 : y_cdok 249 := Or.inr ⟨by decide, y_w 977 (by decide +kernel)⟩
theorem y_cd_250 : y_cdok 250 := Or.inr ⟨by decide, y_w 994 (by decide +kernel)⟩
theorem y_cd_251 : y_cdok 251 := Or.inr ⟨by decide, y_w 1005 (by decide +kernel)⟩
theorem y_cd_252 : y_cdok 252 := Or.inr ⟨by decide, y_w 1016 (by decide +kernel)⟩
theorem y_cd_253 : y_cdok 253 := Or.inr ⟨by decide, y_w 1027 (by decide +kernel)⟩
theorem y_cd_254 : y_cdok 254 := Or.inr ⟨by decide, y_w 1038 (by decide +kernel)⟩
theorem y_cd_255 : y_cdok 255 := Or.inr ⟨by decide, y_w 1045 (by decide +kernel)⟩
theorem y_cd_256 : y_cdok 256 := Or.inr ⟨by decide, y_w 1086 (by decide +kernel)⟩
theorem y_cd_257 : y_cdok 257 := Or.inr ⟨by decide, y_w 1109 (by decide +kernel)⟩
theorem y_cd_258 : y_cdok 258 := Or.inr ⟨by decide, y_w 1164 (by decide +kernel)⟩
theorem y_cd_259 : y_cdok 259 := Or.inr ⟨by decide, y_w 1175 (by decide +kernel)⟩
theorem y_cd_260 : y_cdok 260 := Or.inr ⟨by decide, y_w 1182 (by decide +kernel)⟩
theorem y_cd_261 : y_cdok 261 := Or.inr ⟨by decide, y_w 1190 (by decide +kernel)⟩
theorem y_cd_262 : y_cdok 262 := Or.inr ⟨by decide, y_w 1198 (by decide +kernel)⟩
theorem y_cd_263 : y_cdok 263 := Or.inr ⟨by decide, y_w 1205 (by decide +kernel)⟩
theorem y_cd_264 : y_cdok 264 := Or.inr ⟨by decide, y_w 1216 (by decide +kernel)⟩
theorem y_cd_265 : y_cdok 265 := Or.inr ⟨by decide, y_w 1223 (by decide +kernel)⟩
theorem y_cd_266 : y_cdok 266 := Or.inr ⟨by decide, y_w 1264 (by decide +kernel)⟩
theorem y_cd_267 : y_cdok 267 := Or.inr ⟨by decide, y_w 1279 (by decide +kernel)⟩
theorem y_cd_269 : y_cdok 269 := Or.inl ⟨by decide, y_w 171 (by decide +kernel)⟩
theorem y_cd_270 : y_cdok 270 := Or.inl ⟨by decide, y_w 803 (by decide +kernel)⟩
theorem y_cd_271 : y_cdok 271 := Or.inl ⟨by decide, y_w 815 (by decide +kernel)⟩
theorem y_cd_272 : y_cdok 272 := Or.inl ⟨by decide, y_w 423 (by decide +kernel)⟩
def y_clok (e : Nat × Nat × Nat × Nat × Nat) : Prop := y_cdok e.2.2.2.1 ∧ (parseMethodDescriptor (y_nm e.2.2.2.1).desc).map (fun d => d.parameters.length) = some e.2.2.2.2 ∧
  ((e.2.2.1 < 3 ∧ Cond.methodLink (y_own e.1) e.2.1 (y_nm e.2.2.2.1) ∈ lw_tbl) ∨ (3 ≤ e.2.2.1 ∧ ∃ host, Cond.methodLinkNest (y_own e.1) e.2.1 (y_nm e.2.2.2.1) host ∈ lw_tbl)) ∧
  (((e.2.2.1 = 0 ∨ e.2.2.1 = 5) ∧ Cond.static (y_nm e.2.2.2.1) ∈ lw_tbl) ∨ ((e.2.2.1 = 1 ∨ e.2.2.1 = 4) ∧ Cond.instanceMethod (y_nm e.2.2.2.1) ∈ lw_tbl ∧ Cond.selects (y_nm e.2.2.2.1).cls (y_nm e.2.2.2.1) (y_nm e.2.2.2.1) ∈ lw_tbl) ∨ ((e.2.2.1 = 2 ∨ e.2.2.1 = 3) ∧ (y_nm e.2.2.2.1).name = "<init>" ∧ Cond.instanceMethod (y_nm e.2.2.2.1) ∈ lw_tbl))
theorem y_cl_0 : y_clok (13, 102, 2, 104, 0) := ⟨y_cd_104, by decide +kernel, Or.inl ⟨by decide, y_w 28 (by decide +kernel)⟩, Or.inr (Or.inr ⟨by decide, by decide +kernel, y_w 29 (by decide +kernel)⟩)⟩
theorem y_cl_1 : y_clok (11, 11, 3, 62, 0) := ⟨y_cd_62, by decide +kernel, Or.inr ⟨by decide, "NumberSpeech", y_w 36 (by decide +kernel)⟩, Or.inr (Or.inr ⟨by decide, by decide +kernel, y_w 37 (by decide +kernel)⟩)⟩
theorem y_cl_2 : y_clok (11, 18, 3, 0, 0) := ⟨y_cd_0, by decide +kernel, Or.inr ⟨by decide, "NumberSpeech", y_w 52 (by decide +kernel)⟩, Or.inr (Or.inr ⟨by decide, by decide +kernel, y_w 53 (by decide +kernel)⟩)⟩
theorem y_cl_3 : y_clok (11, 25, 2, 22, 0) := ⟨y_cd_22, by decide +kernel, Or.inl ⟨by decide, y_w 72 (by decide +kernel)⟩, Or.inr (Or.inr ⟨by decide, by decide +kernel, y_w 73 (by decide +kernel)⟩)⟩
theorem y_cl_4 : y_clok (3, 24, 3, 0, 0) := ⟨y_cd_0, by decide +kernel, Or.inr ⟨by decide, "NumberSpeech", y_w 78 (by decide +kernel)⟩, Or.inr (Or.inr ⟨by decide, by decide +kernel, y_w 53 (by decide +kernel)⟩)⟩
theorem y_cl_5 : y_clok (11, 32, 3, 64, 0) := ⟨y_cd_64, by decide +kernel, Or.inr ⟨by decide, "NumberSpeech", y_w 92 (by decide +kernel)⟩, Or.inr (Or.inr ⟨by decide, by decide +kernel, y_w 93 (by decide +kernel)⟩)⟩
theorem y_cl_6 : y_clok (11, 39, 3, 41, 0) := ⟨y_cd_41, by decide +kernel, Or.inr ⟨by decide, "NumberSpeech", y_w 148 (by decide +kernel)⟩, Or.inr (Or.inr ⟨by decide, by decide +kernel, y_w 149 (by decide +kernel)⟩)⟩
theorem y_cl_7 : y_clok (5, 11, 3, 80, 0) := ⟨y_cd_80, by decide +kernel, Or.inr ⟨by decide, "NumberSpeech", y_w 154 (by decide +kernel)⟩, Or.inr (Or.inr ⟨by decide, by decide +kernel, y_w 155 (by decide +kernel)⟩)⟩
theorem y_cl_8 : y_clok (9, 11, 2, 25, 0) := ⟨y_cd_25, by decide +kernel, Or.inl ⟨by decide, y_w 160 (by decide +kernel)⟩, Or.inr (Or.inr ⟨by decide, by decide +kernel, y_w 161 (by decide +kernel)⟩)⟩
theorem y_cl_9 : y_clok (4, 29, 1, 26, 0) := ⟨y_cd_26, by decide +kernel, Or.inl ⟨by decide, y_w 165 (by decide +kernel)⟩, Or.inr (Or.inl ⟨by decide, y_w 166 (by decide +kernel), y_w 167 (by decide +kernel)⟩)⟩
theorem y_cl_10 : y_clok (4, 32, 0, 269, 2) := ⟨y_cd_269, by decide +kernel, Or.inl ⟨by decide, y_w 169 (by decide +kernel)⟩, Or.inl ⟨by decide, y_w 170 (by decide +kernel)⟩⟩
theorem y_cl_11 : y_clok (9, 20, 3, 8, 0) := ⟨y_cd_8, by decide +kernel, Or.inr ⟨by decide, "NumberSpeech", y_w 197 (by decide +kernel)⟩, Or.inr (Or.inr ⟨by decide, by decide +kernel, y_w 198 (by decide +kernel)⟩)⟩
theorem y_cl_12 : y_clok (11, 49, 3, 80, 0) := ⟨y_cd_80, by decide +kernel, Or.inr ⟨by decide, "NumberSpeech", y_w 297 (by decide +kernel)⟩, Or.inr (Or.inr ⟨by decide, by decide +kernel, y_w 155 (by decide +kernel)⟩)⟩
theorem y_cl_13 : y_clok (11, 56, 3, 96, 0) := ⟨y_cd_96, by decide +kernel, Or.inr ⟨by decide, "NumberSpeech", y_w 300 (by decide +kernel)⟩, Or.inr (Or.inr ⟨by decide, by decide +kernel, y_w 301 (by decide +kernel)⟩)⟩
theorem y_cl_14 : y_clok (11, 63, 3, 11, 0) := ⟨y_cd_11, by decide +kernel, Or.inr ⟨by decide, "NumberSpeech", y_w 324 (by decide +kernel)⟩, Or.inr (Or.inr ⟨by decide, by decide +kernel, y_w 325 (by decide +kernel)⟩)⟩
theorem y_cl_15 : y_clok (13, 106, 1, 105, 5) := ⟨y_cd_105, by decide +kernel, Or.inl ⟨by decide, y_w 397 (by decide +kernel)⟩, Or.inr (Or.inl ⟨by decide, y_w 398 (by decide +kernel), y_w 399 (by decide +kernel)⟩)⟩
theorem y_cl_16 : y_clok (11, 85, 1, 63, 1) := ⟨y_cd_63, by decide +kernel, Or.inl ⟨by decide, y_w 401 (by decide +kernel)⟩, Or.inr (Or.inl ⟨by decide, y_w 402 (by decide +kernel), y_w 403 (by decide +kernel)⟩)⟩
theorem y_cl_17 : y_clok (13, 121, 1, 107, 0) := ⟨y_cd_107, by decide +kernel, Or.inl ⟨by decide, y_w 405 (by decide +kernel)⟩, Or.inr (Or.inl ⟨by decide, y_w 406 (by decide +kernel), y_w 407 (by decide +kernel)⟩)⟩
theorem y_cl_18 : y_clok (13, 138, 1, 113, 0) := ⟨y_cd_113, by decide +kernel, Or.inl ⟨by decide, y_w 409 (by decide +kernel)⟩, Or.inr (Or.inl ⟨by decide, y_w 410 (by decide +kernel), y_w 411 (by decide +kernel)⟩)⟩
theorem y_cl_19 : y_clok (11, 163, 1, 24, 1) := ⟨y_cd_24, by decide +kernel, Or.inl ⟨by decide, y_w 413 (by decide +kernel)⟩, Or.inr (Or.inl ⟨by decide, y_w 414 (by decide +kernel), y_w 415 (by decide +kernel)⟩)⟩
theorem y_cl_20 : y_clok (3, 25, 1, 272, 1) := ⟨y_cd_272, by decide +kernel, Or.inl ⟨by decide, y_w 420 (by decide +kernel)⟩, Or.inr (Or.inl ⟨by decide, y_w 422 (by decide +kernel), List.mem_append_left _ (List.mem_of_getElem? (i := 0) (by decide +kernel))⟩)⟩
theorem y_cl_21 : y_clok (3, 29, 1, 7, 1) := ⟨y_cd_7, by decide +kernel, Or.inl ⟨by decide, y_w 424 (by decide +kernel)⟩, Or.inr (Or.inl ⟨by decide, y_w 425 (by decide +kernel), y_w 426 (by decide +kernel)⟩)⟩
theorem y_cl_22 : y_clok (11, 130, 1, 114, 1) := ⟨y_cd_114, by decide +kernel, Or.inl ⟨by decide, y_w 428 (by decide +kernel)⟩, Or.inr (Or.inl ⟨by decide, y_w 430 (by decide +kernel), List.mem_append_left _ (List.mem_of_getElem? (i := 1) (by decide +kernel))⟩)⟩
theorem y_cl_23 : y_clok (11, 166, 1, 141, 1) := ⟨y_cd_141, by decide +kernel, Or.inl ⟨by decide, y_w 432 (by decide +kernel)⟩, Or.inr (Or.inl ⟨by decide, y_w 434 (by decide +kernel), List.mem_append_left _ (List.mem_of_getElem? (i := 2) (by decide +kernel))⟩)⟩
theorem y_cl_24 : y_clok (11, 151, 1, 81, 3) := ⟨y_cd_81, by decide +kernel, Or.inl ⟨by decide, y_w 436 (by decide +kernel)⟩, Or.inr (Or.inl ⟨by decide, y_w 437 (by decide +kernel), y_w 438 (by decide +kernel)⟩)⟩
theorem y_cl_25 : y_clok (9, 59, 1, 1, 1) := ⟨y_cd_1, by decide +kernel, Or.inl ⟨by decide, y_w 440 (by decide +kernel)⟩, Or.inr (Or.inl ⟨by decide, y_w 441 (by decide +kernel), y_w 442 (by decide +kernel)⟩)⟩
theorem y_cl_26 : y_clok (9, 65, 1, 2, 2) := ⟨y_cd_2, by decide +kernel, Or.inl ⟨by decide, y_w 444 (by decide +kernel)⟩, Or.inr (Or.inl ⟨by decide, y_w 445 (by decide +kernel), y_w 446 (by decide +kernel)⟩)⟩
theorem y_cl_27 : y_clok (0, 25, 1, 1, 1) := ⟨y_cd_1, by decide +kernel, Or.inl ⟨by decide, y_w 448 (by decide +kernel)⟩, Or.inr (Or.inl ⟨by decide, y_w 441 (by decide +kernel), y_w 442 (by decide +kernel)⟩)⟩
theorem y_cl_28 : y_clok (9, 69, 1, 26, 0) := ⟨y_cd_26, by decide +kernel, Or.inl ⟨by decide, y_w 449 (by decide +kernel)⟩, Or.inr (Or.inl ⟨by decide, y_w 166 (by decide +kernel), y_w 167 (by decide +kernel)⟩)⟩
theorem y_cl_29 : y_clok (11, 173, 1, 42, 0) := ⟨y_cd_42, by decide +kernel, Or.inl ⟨by decide, y_w 450 (by decide +kernel)⟩, Or.inr (Or.inl ⟨by decide, y_w 451 (by decide +kernel), y_w 452 (by decide +kernel)⟩)⟩
theorem y_cl_30 : y_clok (13, 192, 1, 131, 0) := ⟨y_cd_131, by decide +kernel, Or.inl ⟨by decide, y_w 454 (by decide +kernel)⟩, Or.inr (Or.inl ⟨by decide, y_w 455 (by decide +kernel), y_w 456 (by decide +kernel)⟩)⟩
theorem y_cl_31 : y_clok (11, 213, 1, 84, 1) := ⟨y_cd_84, by decide +kernel, Or.inl ⟨by decide, y_w 458 (by decide +kernel)⟩, Or.inr (Or.inl ⟨by decide, y_w 459 (by decide +kernel), y_w 460 (by decide +kernel)⟩)⟩
theorem y_cl_32 : y_clok (9, 80, 1, 28, 1) := ⟨y_cd_28, by decide +kernel, Or.inl ⟨by decide, y_w 463 (by decide +kernel)⟩, Or.inr (Or.inl ⟨by decide, y_w 464 (by decide +kernel), y_w 465 (by decide +kernel)⟩)⟩
theorem y_cl_33 : y_clok (4, 38, 1, 27, 1) := ⟨y_cd_27, by decide +kernel, Or.inl ⟨by decide, y_w 467 (by decide +kernel)⟩, Or.inr (Or.inl ⟨by decide, y_w 468 (by decide +kernel), y_w 469 (by decide +kernel)⟩)⟩
theorem y_cl_34 : y_clok (9, 83, 1, 89, 2) := ⟨y_cd_89, by decide +kernel, Or.inl ⟨by decide, y_w 471 (by decide +kernel)⟩, Or.inr (Or.inl ⟨by decide, y_w 473 (by decide +kernel), List.mem_append_left _ (List.mem_of_getElem? (i := 3) (by decide +kernel))⟩)⟩
theorem y_cl_35 : y_clok (9, 104, 1, 90, 2) := ⟨y_cd_90, by decide +kernel, Or.inl ⟨by decide, y_w 475 (by decide +kernel)⟩, Or.inr (Or.inl ⟨by decide, y_w 477 (by decide +kernel), List.mem_append_left _ (List.mem_of_getElem? (i := 4) (by decide +kernel))⟩)⟩
theorem y_cl_36 : y_clok (9, 108, 1, 9, 5) := ⟨y_cd_9, by decide +kernel, Or.inl ⟨by decide, y_w 479 (by decide +kernel)⟩, Or.inr (Or.inl ⟨by decide, y_w 480 (by decide +kernel), y_w 481 (by decide +kernel)⟩)⟩
theorem y_cl_37 : y_clok (9, 112, 1, 91, 2) := ⟨y_cd_91, by decide +kernel, Or.inl ⟨by decide, y_w 483 (by decide +kernel)⟩, Or.inr (Or.inl ⟨by decide, y_w 485 (by decide +kernel), List.mem_append_left _ (List.mem_of_getElem? (i := 5) (by decide +kernel))⟩)⟩
theorem y_cl_38 : y_clok (9, 126, 1, 27, 1) := ⟨y_cd_27, by decide +kernel, Or.inl ⟨by decide, y_w 487 (by decide +kernel)⟩, Or.inr (Or.inl ⟨by decide, y_w 468 (by decide +kernel), y_w 469 (by decide +kernel)⟩)⟩
theorem y_cl_39 : y_clok (9, 91, 1, 30, 1) := ⟨y_cd_30, by decide +kernel, Or.inl ⟨by decide, y_w 488 (by decide +kernel)⟩, Or.inr (Or.inl ⟨by decide, y_w 489 (by decide +kernel), y_w 490 (by decide +kernel)⟩)⟩
theorem y_cl_40 : y_clok (9, 115, 1, 29, 1) := ⟨y_cd_29, by decide +kernel, Or.inl ⟨by decide, y_w 492 (by decide +kernel)⟩, Or.inr (Or.inl ⟨by decide, y_w 493 (by decide +kernel), y_w 494 (by decide +kernel)⟩)⟩
theorem y_cl_41 : y_clok (9, 76, 1, 82, 1) := ⟨y_cd_82, by decide +kernel, Or.inl ⟨by decide, y_w 496 (by decide +kernel)⟩, Or.inr (Or.inl ⟨by decide, y_w 497 (by decide +kernel), y_w 498 (by decide +kernel)⟩)⟩
theorem y_cl_42 : y_clok (9, 72, 1, 56, 1) := ⟨y_cd_56, by decide +kernel, Or.inl ⟨by decide, y_w 500 (by decide +kernel)⟩, Or.inr (Or.inl ⟨by decide, y_w 501 (by decide +kernel), y_w 502 (by decide +kernel)⟩)⟩
theorem y_cl_43 : y_clok (9, 118, 1, 92, 3) := ⟨y_cd_92, by decide +kernel, Or.inl ⟨by decide, y_w 504 (by decide +kernel)⟩, Or.inr (Or.inl ⟨by decide, y_w 506 (by decide +kernel), List.mem_append_left _ (List.mem_of_getElem? (i := 6) (by decide +kernel))⟩)⟩
theorem y_cl_44 : y_clok (9, 132, 1, 55, 0) := ⟨y_cd_55, by decide +kernel, Or.inl ⟨by decide, y_w 508 (by decide +kernel)⟩, Or.inr (Or.inl ⟨by decide, y_w 509 (by decide +kernel), y_w 510 (by decide +kernel)⟩)⟩
theorem y_cl_45 : y_clok (9, 135, 1, 57, 1) := ⟨y_cd_57, by decide +kernel, Or.inl ⟨by decide, y_w 512 (by decide +kernel)⟩, Or.inr (Or.inl ⟨by decide, y_w 513 (by decide +kernel), y_w 514 (by decide +kernel)⟩)⟩
theorem y_cl_46 : y_clok (9, 138, 1, 60, 2) := ⟨y_cd_60, by decide +kernel, Or.inl ⟨by decide, y_w 516 (by decide +kernel)⟩, Or.inr (Or.inl ⟨by decide, y_w 517 (by decide +kernel), y_w 518 (by decide +kernel)⟩)⟩
theorem y_cl_47 : y_clok (6, 53, 1, 58, 1) := ⟨y_cd_58, by decide +kernel, Or.inl ⟨by decide, y_w 520 (by decide +kernel)⟩, Or.inr (Or.inl ⟨by decide, y_w 521 (by decide +kernel), y_w 522 (by decide +kernel)⟩)⟩
theorem y_cl_48 : y_clok (6, 57, 1, 57, 1) := ⟨y_cd_57, by decide +kernel, Or.inl ⟨by decide, y_w 524 (by decide +kernel)⟩, Or.inr (Or.inl ⟨by decide, y_w 513 (by decide +kernel), y_w 514 (by decide +kernel)⟩)⟩
theorem y_cl_49 : y_clok (9, 141, 1, 93, 4) := ⟨y_cd_93, by decide +kernel, Or.inl ⟨by decide, y_w 525 (by decide +kernel)⟩, Or.inr (Or.inl ⟨by decide, y_w 527 (by decide +kernel), List.mem_append_left _ (List.mem_of_getElem? (i := 7) (by decide +kernel))⟩)⟩
theorem y_cl_50 : y_clok (9, 152, 1, 58, 1) := ⟨y_cd_58, by decide +kernel, Or.inl ⟨by decide, y_w 529 (by decide +kernel)⟩, Or.inr (Or.inl ⟨by decide, y_w 521 (by decide +kernel), y_w 522 (by decide +kernel)⟩)⟩
theorem y_cl_51 : y_clok (9, 155, 1, 95, 3) := ⟨y_cd_95, by decide +kernel, Or.inl ⟨by decide, y_w 530 (by decide +kernel)⟩, Or.inr (Or.inl ⟨by decide, y_w 532 (by decide +kernel), List.mem_append_left _ (List.mem_of_getElem? (i := 8) (by decide +kernel))⟩)⟩
theorem y_cl_52 : y_clok (9, 158, 1, 59, 2) := ⟨y_cd_59, by decide +kernel, Or.inl ⟨by decide, y_w 534 (by decide +kernel)⟩, Or.inr (Or.inl ⟨by decide, y_w 535 (by decide +kernel), y_w 536 (by decide +kernel)⟩)⟩
theorem y_cl_53 : y_clok (9, 145, 1, 61, 2) := ⟨y_cd_61, by decide +kernel, Or.inl ⟨by decide, y_w 538 (by decide +kernel)⟩, Or.inr (Or.inl ⟨by decide, y_w 539 (by decide +kernel), y_w 540 (by decide +kernel)⟩)⟩
theorem y_cl_54 : y_clok (9, 148, 1, 94, 3) := ⟨y_cd_94, by decide +kernel, Or.inl ⟨by decide, y_w 542 (by decide +kernel)⟩, Or.inr (Or.inl ⟨by decide, y_w 544 (by decide +kernel), List.mem_append_left _ (List.mem_of_getElem? (i := 9) (by decide +kernel))⟩)⟩
theorem y_cl_55 : y_clok (9, 170, 5, 150, 5) := ⟨y_cd_150, by decide +kernel, Or.inr ⟨by decide, "NumberSpeech", y_w 547 (by decide +kernel)⟩, Or.inl ⟨by decide, y_w 548 (by decide +kernel)⟩⟩
theorem y_cl_56 : y_clok (9, 122, 1, 35, 6) := ⟨y_cd_35, by decide +kernel, Or.inl ⟨by decide, y_w 553 (by decide +kernel)⟩, Or.inr (Or.inl ⟨by decide, y_w 554 (by decide +kernel), y_w 555 (by decide +kernel)⟩)⟩
theorem y_cl_57 : y_clok (4, 48, 5, 150, 5) := ⟨y_cd_150, by decide +kernel, Or.inr ⟨by decide, "NumberSpeech", y_w 557 (by decide +kernel)⟩, Or.inl ⟨by decide, y_w 548 (by decide +kernel)⟩⟩
theorem y_cl_58 : y_clok (9, 87, 1, 34, 1) := ⟨y_cd_34, by decide +kernel, Or.inl ⟨by decide, y_w 558 (by decide +kernel)⟩, Or.inr (Or.inl ⟨by decide, y_w 559 (by decide +kernel), y_w 560 (by decide +kernel)⟩)⟩
theorem y_cl_59 : y_clok (11, 304, 1, 40, 2) := ⟨y_cd_40, by decide +kernel, Or.inl ⟨by decide, y_w 562 (by decide +kernel)⟩, Or.inr (Or.inl ⟨by decide, y_w 563 (by decide +kernel), y_w 564 (by decide +kernel)⟩)⟩
theorem y_cl_60 : y_clok (4, 55, 1, 31, 1) := ⟨y_cd_31, by decide +kernel, Or.inl ⟨by decide, y_w 566 (by decide +kernel)⟩, Or.inr (Or.inl ⟨by decide, y_w 567 (by decide +kernel), y_w 568 (by decide +kernel)⟩)⟩
theorem y_cl_61 : y_clok (4, 52, 1, 32, 1) := ⟨y_cd_32, by decide +kernel, Or.inl ⟨by decide, y_w 570 (by decide +kernel)⟩, Or.inr (Or.inl ⟨by decide, y_w 571 (by decide +kernel), y_w 572 (by decide +kernel)⟩)⟩
theorem y_cl_62 : y_clok (4, 61, 5, 151, 6) := ⟨y_cd_151, by decide +kernel, Or.inr ⟨by decide, "NumberSpeech", y_w 577 (by decide +kernel)⟩, Or.inl ⟨by decide, y_w 578 (by decide +kernel)⟩⟩
theorem y_cl_63 : y_clok (13, 217, 1, 140, 1) := ⟨y_cd_140, by decide +kernel, Or.inl ⟨by decide, y_w 581 (by decide +kernel)⟩, Or.inr (Or.inl ⟨by decide, y_w 582 (by decide +kernel), y_w 583 (by decide +kernel)⟩)⟩
theorem y_cl_64 : y_clok (13, 111, 0, 240, 3) := ⟨y_cd_240, by decide +kernel, Or.inl ⟨by decide, y_w 585 (by decide +kernel)⟩, Or.inl ⟨by decide, y_w 586 (by decide +kernel)⟩⟩
theorem y_cl_65 : y_clok (13, 7, 1, 106, 1) := ⟨y_cd_106, by decide +kernel, Or.inl ⟨by decide, y_w 589 (by decide +kernel)⟩, Or.inr (Or.inl ⟨by decide, y_w 590 (by decide +kernel), y_w 591 (by decide +kernel)⟩)⟩
theorem y_cl_66 : y_clok (11, 89, 1, 146, 3) := ⟨y_cd_146, by decide +kernel, Or.inl ⟨by decide, y_w 593 (by decide +kernel)⟩, Or.inr (Or.inl ⟨by decide, y_w 595 (by decide +kernel), List.mem_append_left _ (List.mem_of_getElem? (i := 10) (by decide +kernel))⟩)⟩
theorem y_cl_67 : y_clok (11, 93, 1, 109, 2) := ⟨y_cd_109, by decide +kernel, Or.inl ⟨by decide, y_w 663 (by decide +kernel)⟩, Or.inr (Or.inl ⟨by decide, y_w 665 (by decide +kernel), List.mem_append_left _ (List.mem_of_getElem? (i := 12) (by decide +kernel))⟩)⟩
theorem y_cl_68 : y_clok (11, 101, 1, 65, 4) := ⟨y_cd_65, by decide +kernel, Or.inl ⟨by decide, y_w 667 (by decide +kernel)⟩, Or.inr (Or.inl ⟨by decide, y_w 668 (by decide +kernel), y_w 669 (by decide +kernel)⟩)⟩
theorem y_cl_69 : y_clok (8, 69, 1, 66, 0) := ⟨y_cd_66, by decide +kernel, Or.inl ⟨by decide, y_w 673 (by decide +kernel)⟩, Or.inr (Or.inl ⟨by decide, y_w 675 (by decide +kernel), List.mem_append_left _ (List.mem_of_getElem? (i := 13) (by decide +kernel))⟩)⟩
theorem y_cl_70 : y_clok (8, 96, 1, 74, 1) := ⟨y_cd_74, by decide +kernel, Or.inl ⟨by decide, y_w 678 (by decide +kernel)⟩, Or.inr (Or.inl ⟨by decide, y_w 680 (by decide +kernel), List.mem_append_left _ (List.mem_of_getElem? (i := 14) (by decide +kernel))⟩)⟩
theorem y_cl_71 : y_clok (8, 79, 1, 76, 0) := ⟨y_cd_76, by decide +kernel, Or.inl ⟨by decide, y_w 682 (by decide +kernel)⟩, Or.inr (Or.inl ⟨by decide, y_w 684 (by decide +kernel), List.mem_append_left _ (List.mem_of_getElem? (i := 15) (by decide +kernel))⟩)⟩
theorem y_cl_72 : y_clok (8, 129, 1, 75, 0) := ⟨y_cd_75, by decide +kernel, Or.inl ⟨by decide, y_w 686 (by decide +kernel)⟩, Or.inr (Or.inl ⟨by decide, y_w 688 (by decide +kernel), List.mem_append_left _ (List.mem_of_getElem? (i := 16) (by decide +kernel))⟩)⟩
theorem y_cl_73 : y_clok (8, 132, 1, 78, 1) := ⟨y_cd_78, by decide +kernel, Or.inl ⟨by decide, y_w 690 (by decide +kernel)⟩, Or.inr (Or.inl ⟨by decide, y_w 692 (by decide +kernel), List.mem_append_left _ (List.mem_of_getElem? (i := 17) (by decide +kernel))⟩)⟩
theorem y_cl_74 : y_clok (8, 136, 5, 148, 1) := ⟨y_cd_148, by decide +kernel, Or.inr ⟨by decide, "NumberSpeech", y_w 694 (by decide +kernel)⟩, Or.inl ⟨by decide, y_w 695 (by decide +kernel)⟩⟩
theorem y_cl_75 : y_clok (8, 100, 1, 79, 2) := ⟨y_cd_79, by decide +kernel, Or.inl ⟨by decide, y_w 745 (by decide +kernel)⟩, Or.inr (Or.inl ⟨by decide, y_w 747 (by decide +kernel), List.mem_append_left _ (List.mem_of_getElem? (i := 18) (by decide +kernel))⟩)⟩
theorem y_cl_76 : y_clok (8, 104, 1, 73, 2) := ⟨y_cd_73, by decide +kernel, Or.inl ⟨by decide, y_w 749 (by decide +kernel)⟩, Or.inr (Or.inl ⟨by decide, y_w 751 (by decide +kernel), List.mem_append_left _ (List.mem_of_getElem? (i := 19) (by decide +kernel))⟩)⟩
theorem y_cl_77 : y_clok (8, 139, 5, 149, 1) := ⟨y_cd_149, by decide +kernel, Or.inr ⟨by decide, "NumberSpeech", y_w 753 (by decide +kernel)⟩, Or.inl ⟨by decide, y_w 754 (by decide +kernel)⟩⟩
theorem y_cl_78 : y_clok (8, 107, 1, 77, 0) := ⟨y_cd_77, by decide +kernel, Or.inl ⟨by decide, y_w 759 (by decide +kernel)⟩, Or.inr (Or.inl ⟨by decide, y_w 761 (by decide +kernel), List.mem_append_left _ (List.mem_of_getElem? (i := 20) (by decide +kernel))⟩)⟩
theorem y_cl_79 : y_clok (8, 73, 1, 1, 1) := ⟨y_cd_1, by decide +kernel, Or.inl ⟨by decide, y_w 763 (by decide +kernel)⟩, Or.inr (Or.inl ⟨by decide, y_w 441 (by decide +kernel), y_w 442 (by decide +kernel)⟩)⟩
theorem y_cl_80 : y_clok (8, 82, 1, 67, 1) := ⟨y_cd_67, by decide +kernel, Or.inl ⟨by decide, y_w 764 (by decide +kernel)⟩, Or.inr (Or.inl ⟨by decide, y_w 766 (by decide +kernel), List.mem_append_left _ (List.mem_of_getElem? (i := 21) (by decide +kernel))⟩)⟩
theorem y_cl_81 : y_clok (8, 86, 1, 69, 0) := ⟨y_cd_69, by decide +kernel, Or.inl ⟨by decide, y_w 769 (by decide +kernel)⟩, Or.inr (Or.inl ⟨by decide, y_w 771 (by decide +kernel), List.mem_append_left _ (List.mem_of_getElem? (i := 22) (by decide +kernel))⟩)⟩
theorem y_cl_82 : y_clok (8, 89, 1, 70, 0) := ⟨y_cd_70, by decide +kernel, Or.inl ⟨by decide, y_w 777 (by decide +kernel)⟩, Or.inr (Or.inl ⟨by decide, y_w 779 (by decide +kernel), List.mem_append_left _ (List.mem_of_getElem? (i := 23) (by decide +kernel))⟩)⟩
theorem y_cl_83 : y_clok (8, 123, 1, 72, 0) := ⟨y_cd_72, by decide +kernel, Or.inl ⟨by decide, y_w 781 (by decide +kernel)⟩, Or.inr (Or.inl ⟨by decide, y_w 783 (by decide +kernel), List.mem_append_left _ (List.mem_of_getElem? (i := 24) (by decide +kernel))⟩)⟩
theorem y_cl_84 : y_clok (8, 126, 1, 71, 1) := ⟨y_cd_71, by decide +kernel, Or.inl ⟨by decide, y_w 785 (by decide +kernel)⟩, Or.inr (Or.inl ⟨by decide, y_w 787 (by decide +kernel), List.mem_append_left _ (List.mem_of_getElem? (i := 25) (by decide +kernel))⟩)⟩
theorem y_cl_85 : y_clok (8, 92, 1, 68, 0) := ⟨y_cd_68, by decide +kernel, Or.inl ⟨by decide, y_w 790 (by decide +kernel)⟩, Or.inr (Or.inl ⟨by decide, y_w 792 (by decide +kernel), List.mem_append_left _ (List.mem_of_getElem? (i := 26) (by decide +kernel))⟩)⟩
theorem y_cl_86 : y_clok (8, 113, 2, 54, 5) := ⟨y_cd_54, by decide +kernel, Or.inl ⟨by decide, y_w 795 (by decide +kernel)⟩, Or.inr (Or.inr ⟨by decide, by decide +kernel, y_w 796 (by decide +kernel)⟩)⟩
theorem y_cl_87 : y_clok (6, 33, 0, 270, 2) := ⟨y_cd_270, by decide +kernel, Or.inl ⟨by decide, y_w 801 (by decide +kernel)⟩, Or.inl ⟨by decide, y_w 802 (by decide +kernel)⟩⟩
theorem y_cl_88 : y_clok (6, 46, 0, 271, 2) := ⟨y_cd_271, by decide +kernel, Or.inl ⟨by decide, y_w 813 (by decide +kernel)⟩, Or.inl ⟨by decide, y_w 814 (by decide +kernel)⟩⟩
theorem y_cl_89 : y_clok (11, 109, 1, 23, 1) := ⟨y_cd_23, by decide +kernel, Or.inl ⟨by decide, y_w 847 (by decide +kernel)⟩, Or.inr (Or.inl ⟨by decide, y_w 848 (by decide +kernel), y_w 849 (by decide +kernel)⟩)⟩
theorem y_cl_90 : y_clok (11, 116, 1, 3, 1) := ⟨y_cd_3, by decide +kernel, Or.inl ⟨by decide, y_w 852 (by decide +kernel)⟩, Or.inr (Or.inl ⟨by decide, y_w 853 (by decide +kernel), y_w 854 (by decide +kernel)⟩)⟩
theorem y_cl_91 : y_clok (11, 126, 1, 4, 2) := ⟨y_cd_4, by decide +kernel, Or.inl ⟨by decide, y_w 856 (by decide +kernel)⟩, Or.inr (Or.inl ⟨by decide, y_w 857 (by decide +kernel), y_w 858 (by decide +kernel)⟩)⟩
theorem y_cl_92 : y_clok (11, 133, 1, 1, 1) := ⟨y_cd_1, by decide +kernel, Or.inl ⟨by decide, y_w 860 (by decide +kernel)⟩, Or.inr (Or.inl ⟨by decide, y_w 441 (by decide +kernel), y_w 442 (by decide +kernel)⟩)⟩
theorem y_cl_93 : y_clok (13, 125, 0, 241, 3) := ⟨y_cd_241, by decide +kernel, Or.inl ⟨by decide, y_w 861 (by decide +kernel)⟩, Or.inl ⟨by decide, y_w 862 (by decide +kernel)⟩⟩
theorem y_cl_94 : y_clok (13, 15, 1, 108, 1) := ⟨y_cd_108, by decide +kernel, Or.inl ⟨by decide, y_w 864 (by decide +kernel)⟩, Or.inr (Or.inl ⟨by decide, y_w 865 (by decide +kernel), y_w 866 (by decide +kernel)⟩)⟩
theorem y_cl_95 : y_clok (13, 128, 0, 242, 3) := ⟨y_cd_242, by decide +kernel, Or.inl ⟨by decide, y_w 868 (by decide +kernel)⟩, Or.inl ⟨by decide, y_w 869 (by decide +kernel)⟩⟩
theorem y_cl_96 : y_clok (13, 18, 1, 110, 1) := ⟨y_cd_110, by decide +kernel, Or.inl ⟨by decide, y_w 871 (by decide +kernel)⟩, Or.inr (Or.inl ⟨by decide, y_w 872 (by decide +kernel), y_w 873 (by decide +kernel)⟩)⟩
theorem y_cl_97 : y_clok (13, 131, 0, 243, 4) := ⟨y_cd_243, by decide +kernel, Or.inl ⟨by decide, y_w 875 (by decide +kernel)⟩, Or.inl ⟨by decide, y_w 876 (by decide +kernel)⟩⟩
theorem y_cl_98 : y_clok (13, 21, 1, 111, 2) := ⟨y_cd_111, by decide +kernel, Or.inl ⟨by decide, y_w 879 (by decide +kernel)⟩, Or.inr (Or.inl ⟨by decide, y_w 880 (by decide +kernel), y_w 881 (by decide +kernel)⟩)⟩
theorem y_cl_99 : y_clok (11, 140, 1, 144, 2) := ⟨y_cd_144, by decide +kernel, Or.inl ⟨by decide, y_w 883 (by decide +kernel)⟩, Or.inr (Or.inl ⟨by decide, y_w 885 (by decide +kernel), List.mem_append_left _ (List.mem_of_getElem? (i := 27) (by decide +kernel))⟩)⟩
theorem y_cl_100 : y_clok (11, 206, 1, 143, 1) := ⟨y_cd_143, by decide +kernel, Or.inl ⟨by decide, y_w 887 (by decide +kernel)⟩, Or.inr (Or.inl ⟨by decide, y_w 889 (by decide +kernel), List.mem_append_left _ (List.mem_of_getElem? (i := 28) (by decide +kernel))⟩)⟩
theorem y_cl_101 : y_clok (11, 197, 1, 145, 2) := ⟨y_cd_145, by decide +kernel, Or.inl ⟨by decide, y_w 891 (by decide +kernel)⟩, Or.inr (Or.inl ⟨by decide, y_w 893 (by decide +kernel), List.mem_append_left _ (List.mem_of_getElem? (i := 29) (by decide +kernel))⟩)⟩
theorem y_cl_102 : y_clok (11, 339, 1, 2, 2) := ⟨y_cd_2, by decide +kernel, Or.inl ⟨by decide, y_w 911 (by decide +kernel)⟩, Or.inr (Or.inl ⟨by decide, y_w 445 (by decide +kernel), y_w 446 (by decide +kernel)⟩)⟩
theorem y_cl_103 : y_clok (11, 144, 1, 5, 2) := ⟨y_cd_5, by decide +kernel, Or.inl ⟨by decide, y_w 913 (by decide +kernel)⟩, Or.inr (Or.inl ⟨by decide, y_w 914 (by decide +kernel), y_w 915 (by decide +kernel)⟩)⟩
theorem y_cl_104 : y_clok (13, 135, 0, 244, 4) := ⟨y_cd_244, by decide +kernel, Or.inl ⟨by decide, y_w 917 (by decide +kernel)⟩, Or.inl ⟨by decide, y_w 918 (by decide +kernel)⟩⟩
theorem y_cl_105 : y_clok (13, 27, 1, 112, 2) := ⟨y_cd_112, by decide +kernel, Or.inl ⟨by decide, y_w 920 (by decide +kernel)⟩, Or.inr (Or.inl ⟨by decide, y_w 921 (by decide +kernel), y_w 922 (by decide +kernel)⟩)⟩
theorem y_cl_106 : y_clok (11, 148, 1, 6, 2) := ⟨y_cd_6, by decide +kernel, Or.inl ⟨by decide, y_w 924 (by decide +kernel)⟩, Or.inr (Or.inl ⟨by decide, y_w 925 (by decide +kernel), y_w 926 (by decide +kernel)⟩)⟩
theorem y_cl_107 : y_clok (11, 154, 1, 142, 1) := ⟨y_cd_142, by decide +kernel, Or.inl ⟨by decide, y_w 928 (by decide +kernel)⟩, Or.inr (Or.inl ⟨by decide, y_w 930 (by decide +kernel), List.mem_append_left _ (List.mem_of_getElem? (i := 30) (by decide +kernel))⟩)⟩
theorem y_cl_108 : y_clok (11, 158, 1, 88, 3) := ⟨y_cd_88, by decide +kernel, Or.inl ⟨by decide, y_w 932 (by decide +kernel)⟩, Or.inr (Or.inl ⟨by decide, y_w 933 (by decide +kernel), y_w 934 (by decide +kernel)⟩)⟩
theorem y_cl_109 : y_clok (9, 94, 1, 84, 1) := ⟨y_cd_84, by decide +kernel, Or.inl ⟨by decide, y_w 936 (by decide +kernel)⟩, Or.inr (Or.inl ⟨by decide, y_w 459 (by decide +kernel), y_w 460 (by decide +kernel)⟩)⟩
theorem y_cl_110 : y_clok (9, 100, 1, 40, 2) := ⟨y_cd_40, by decide +kernel, Or.inl ⟨by decide, y_w 937 (by decide +kernel)⟩, Or.inr (Or.inl ⟨by decide, y_w 563 (by decide +kernel), y_w 564 (by decide +kernel)⟩)⟩
theorem y_cl_111 : y_clok (13, 142, 0, 245, 3) := ⟨y_cd_245, by decide +kernel, Or.inl ⟨by decide, y_w 938 (by decide +kernel)⟩, Or.inl ⟨by decide, y_w 939 (by decide +kernel)⟩⟩
theorem y_cl_112 : y_clok (13, 30, 1, 115, 1) := ⟨y_cd_115, by decide +kernel, Or.inl ⟨by decide, y_w 941 (by decide +kernel)⟩, Or.inr (Or.inl ⟨by decide, y_w 942 (by decide +kernel), y_w 943 (by decide +kernel)⟩)⟩
theorem y_cl_113 : y_clok (13, 145, 0, 246, 5) := ⟨y_cd_246, by decide +kernel, Or.inl ⟨by decide, y_w 945 (by decide +kernel)⟩, Or.inl ⟨by decide, y_w 946 (by decide +kernel)⟩⟩
theorem y_cl_114 : y_clok (13, 33, 1, 116, 3) := ⟨y_cd_116, by decide +kernel, Or.inl ⟨by decide, y_w 948 (by decide +kernel)⟩, Or.inr (Or.inl ⟨by decide, y_w 949 (by decide +kernel), y_w 950 (by decide +kernel)⟩)⟩
theorem y_cl_115 : y_clok (11, 190, 1, 55, 0) := ⟨y_cd_55, by decide +kernel, Or.inl ⟨by decide, y_w 952 (by decide +kernel)⟩, Or.inr (Or.inl ⟨by decide, y_w 509 (by decide +kernel), y_w 510 (by decide +kernel)⟩)⟩
theorem y_cl_116 : y_clok (11, 193, 1, 83, 2) := ⟨y_cd_83, by decide +kernel, Or.inl ⟨by decide, y_w 953 (by decide +kernel)⟩, Or.inr (Or.inl ⟨by decide, y_w 954 (by decide +kernel), y_w 955 (by decide +kernel)⟩)⟩
theorem y_cl_117 : y_clok (13, 149, 0, 247, 6) := ⟨y_cd_247, by decide +kernel, Or.inl ⟨by decide, y_w 957 (by decide +kernel)⟩, Or.inl ⟨by decide, y_w 958 (by decide +kernel)⟩⟩
theorem y_cl_118 : y_clok (13, 37, 1, 117, 4) := ⟨y_cd_117, by decide +kernel, Or.inl ⟨by decide, y_w 960 (by decide +kernel)⟩, Or.inr (Or.inl ⟨by decide, y_w 961 (by decide +kernel), y_w 962 (by decide +kernel)⟩)⟩
theorem y_cl_119 : y_clok (11, 200, 1, 57, 1) := ⟨y_cd_57, by decide +kernel, Or.inl ⟨by decide, y_w 964 (by decide +kernel)⟩, Or.inr (Or.inl ⟨by decide, y_w 513 (by decide +kernel), y_w 514 (by decide +kernel)⟩)⟩
theorem y_cl_120 : y_clok (11, 203, 1, 58, 1) := ⟨y_cd_58, by decide +kernel, Or.inl ⟨by decide, y_w 965 (by decide +kernel)⟩, Or.inr (Or.inl ⟨by decide, y_w 521 (by decide +kernel), y_w 522 (by decide +kernel)⟩)⟩
theorem y_cl_121 : y_clok (13, 153, 0, 248, 4) := ⟨y_cd_248, by decide +kernel, Or.inl ⟨by decide, y_w 966 (by decide +kernel)⟩, Or.inl ⟨by decide, y_w 967 (by decide +kernel)⟩⟩
theorem y_cl_122 : y_clok (13, 41, 1, 118, 2) := ⟨y_cd_118, by decide +kernel, Or.inl ⟨by decide, y_w 969 (by decide +kernel)⟩, Or.inr (Or.inl ⟨by decide, y_w 970 (by decide +kernel), y_w 971 (by decide +kernel)⟩)⟩
theorem y_cl_123 : y_clok (11, 210, 1, 82, 1) := ⟨y_cd_82, by decide +kernel, Or.inl ⟨by decide, y_w 974 (by decide +kernel)⟩, Or.inr (Or.inl ⟨by decide, y_w 497 (by decide +kernel), y_w 498 (by decide +kernel)⟩)⟩
theorem y_cl_124 : y_clok (13, 156, 0, 249, 5) := ⟨y_cd_249, by decide +kernel, Or.inl ⟨by decide, y_w 975 (by decide +kernel)⟩, Or.inl ⟨by decide, y_w 976 (by decide +kernel)⟩⟩
theorem y_cl_125 : y_clok (13, 44, 1, 119, 3) := ⟨y_cd_119, by decide +kernel, Or.inl ⟨by decide, y_w 978 (by decide +kernel)⟩, Or.inr (Or.inl ⟨by decide, y_w 979 (by decide +kernel), y_w 980 (by decide +kernel)⟩)⟩
theorem y_cl_126 : y_clok (11, 221, 1, 32, 1) := ⟨y_cd_32, by decide +kernel, Or.inl ⟨by decide, y_w 982 (by decide +kernel)⟩, Or.inr (Or.inl ⟨by decide, y_w 571 (by decide +kernel), y_w 572 (by decide +kernel)⟩)⟩
theorem y_cl_127 : y_clok (11, 226, 1, 37, 1) := ⟨y_cd_37, by decide +kernel, Or.inl ⟨by decide, y_w 983 (by decide +kernel)⟩, Or.inr (Or.inl ⟨by decide, y_w 984 (by decide +kernel), y_w 985 (by decide +kernel)⟩)⟩
theorem y_cl_128 : y_clok (4, 58, 1, 38, 1) := ⟨y_cd_38, by decide +kernel, Or.inl ⟨by decide, y_w 987 (by decide +kernel)⟩, Or.inr (Or.inl ⟨by decide, y_w 988 (by decide +kernel), y_w 989 (by decide +kernel)⟩)⟩
theorem y_cl_129 : y_clok (11, 229, 1, 38, 1) := ⟨y_cd_38, by decide +kernel, Or.inl ⟨by decide, y_w 991 (by decide +kernel)⟩, Or.inr (Or.inl ⟨by decide, y_w 988 (by decide +kernel), y_w 989 (by decide +kernel)⟩)⟩
theorem y_cl_130 : y_clok (13, 159, 0, 250, 5) := ⟨y_cd_250, by decide +kernel, Or.inl ⟨by decide, y_w 992 (by decide +kernel)⟩, Or.inl ⟨by decide, y_w 993 (by decide +kernel)⟩⟩
theorem y_cl_131 : y_clok (13, 47, 1, 120, 3) := ⟨y_cd_120, by decide +kernel, Or.inl ⟨by decide, y_w 995 (by decide +kernel)⟩, Or.inr (Or.inl ⟨by decide, y_w 996 (by decide +kernel), y_w 997 (by decide +kernel)⟩)⟩
theorem y_cl_132 : y_clok (11, 232, 1, 36, 2) := ⟨y_cd_36, by decide +kernel, Or.inl ⟨by decide, y_w 999 (by decide +kernel)⟩, Or.inr (Or.inl ⟨by decide, y_w 1000 (by decide +kernel), y_w 1001 (by decide +kernel)⟩)⟩
theorem y_cl_133 : y_clok (13, 162, 0, 251, 4) := ⟨y_cd_251, by decide +kernel, Or.inl ⟨by decide, y_w 1003 (by decide +kernel)⟩, Or.inl ⟨by decide, y_w 1004 (by decide +kernel)⟩⟩
theorem y_cl_134 : y_clok (13, 50, 1, 121, 2) := ⟨y_cd_121, by decide +kernel, Or.inl ⟨by decide, y_w 1006 (by decide +kernel)⟩, Or.inr (Or.inl ⟨by decide, y_w 1007 (by decide +kernel), y_w 1008 (by decide +kernel)⟩)⟩
theorem y_cl_135 : y_clok (11, 235, 1, 33, 1) := ⟨y_cd_33, by decide +kernel, Or.inl ⟨by decide, y_w 1010 (by decide +kernel)⟩, Or.inr (Or.inl ⟨by decide, y_w 1011 (by decide +kernel), y_w 1012 (by decide +kernel)⟩)⟩
theorem y_cl_136 : y_clok (13, 165, 0, 252, 4) := ⟨y_cd_252, by decide +kernel, Or.inl ⟨by decide, y_w 1014 (by decide +kernel)⟩, Or.inl ⟨by decide, y_w 1015 (by decide +kernel)⟩⟩
theorem y_cl_137 : y_clok (13, 53, 1, 122, 2) := ⟨y_cd_122, by decide +kernel, Or.inl ⟨by decide, y_w 1017 (by decide +kernel)⟩, Or.inr (Or.inl ⟨by decide, y_w 1018 (by decide +kernel), y_w 1019 (by decide +kernel)⟩)⟩
theorem y_cl_138 : y_clok (11, 238, 1, 87, 1) := ⟨y_cd_87, by decide +kernel, Or.inl ⟨by decide, y_w 1021 (by decide +kernel)⟩, Or.inr (Or.inl ⟨by decide, y_w 1022 (by decide +kernel), y_w 1023 (by decide +kernel)⟩)⟩
theorem y_cl_139 : y_clok (13, 168, 0, 253, 6) := ⟨y_cd_253, by decide +kernel, Or.inl ⟨by decide, y_w 1025 (by decide +kernel)⟩, Or.inl ⟨by decide, y_w 1026 (by decide +kernel)⟩⟩
theorem y_cl_140 : y_clok (13, 56, 1, 123, 4) := ⟨y_cd_123, by decide +kernel, Or.inl ⟨by decide, y_w 1028 (by decide +kernel)⟩, Or.inr (Or.inl ⟨by decide, y_w 1029 (by decide +kernel), y_w 1030 (by decide +kernel)⟩)⟩
theorem y_cl_141 : y_clok (11, 245, 1, 10, 2) := ⟨y_cd_10, by decide +kernel, Or.inl ⟨by decide, y_w 1032 (by decide +kernel)⟩, Or.inr (Or.inl ⟨by decide, y_w 1033 (by decide +kernel), y_w 1034 (by decide +kernel)⟩)⟩
theorem y_cl_142 : y_clok (13, 171, 0, 254, 4) := ⟨y_cd_254, by decide +kernel, Or.inl ⟨by decide, y_w 1036 (by decide +kernel)⟩, Or.inl ⟨by decide, y_w 1037 (by decide +kernel)⟩⟩
theorem y_cl_143 : y_clok (13, 59, 1, 124, 2) := ⟨y_cd_124, by decide +kernel, Or.inl ⟨by decide, y_w 1039 (by decide +kernel)⟩, Or.inr (Or.inl ⟨by decide, y_w 1040 (by decide +kernel), y_w 1041 (by decide +kernel)⟩)⟩
theorem y_cl_144 : y_clok (13, 174, 0, 255, 4) := ⟨y_cd_255, by decide +kernel, Or.inl ⟨by decide, y_w 1043 (by decide +kernel)⟩, Or.inl ⟨by decide, y_w 1044 (by decide +kernel)⟩⟩
theorem y_cl_145 : y_clok (13, 62, 1, 125, 2) := ⟨y_cd_125, by decide +kernel, Or.inl ⟨by decide, y_w 1046 (by decide +kernel)⟩, Or.inr (Or.inl ⟨by decide, y_w 1047 (by decide +kernel), y_w 1048 (by decide +kernel)⟩)⟩
theorem y_cl_146 : y_clok (11, 250, 1, 43, 1) := ⟨y_cd_43, by decide +kernel, Or.inl ⟨by decide, y_w 1050 (by decide +kernel)⟩, Or.inr (Or.inl ⟨by decide, y_w 1051 (by decide +kernel), y_w 1052 (by decide +kernel)⟩)⟩
theorem y_cl_147 : y_clok (5, 50, 1, 84, 1) := ⟨y_cd_84, by decide +kernel, Or.inl ⟨by decide, y_w 1054 (by decide +kernel)⟩, Or.inr (Or.inl ⟨by decide, y_w 459 (by decide +kernel), y_w 460 (by decide +kernel)⟩)⟩
theorem y_cl_148 : y_clok (5, 54, 1, 44, 0) := ⟨y_cd_44, by decide +kernel, Or.inl ⟨by decide, y_w 1055 (by decide +kernel)⟩, Or.inr (Or.inl ⟨by decide, y_w 1057 (by decide +kernel), List.mem_append_left _ (List.mem_of_getElem? (i := 31) (by decide +kernel))⟩)⟩
theorem y_cl_149 : y_clok (5, 63, 1, 45, 3) := ⟨y_cd_45, by decide +kernel, Or.inl ⟨by decide, y_w 1060 (by decide +kernel)⟩, Or.inr (Or.inl ⟨by decide, y_w 1062 (by decide +kernel), List.mem_append_left _ (List.mem_of_getElem? (i := 32) (by decide +kernel))⟩)⟩
theorem y_cl_150 : y_clok (5, 73, 1, 46, 2) := ⟨y_cd_46, by decide +kernel, Or.inl ⟨by decide, y_w 1064 (by decide +kernel)⟩, Or.inr (Or.inl ⟨by decide, y_w 1066 (by decide +kernel), List.mem_append_left _ (List.mem_of_getElem? (i := 33) (by decide +kernel))⟩)⟩
theorem y_cl_151 : y_clok (5, 86, 1, 31, 1) := ⟨y_cd_31, by decide +kernel, Or.inl ⟨by decide, y_w 1068 (by decide +kernel)⟩, Or.inr (Or.inl ⟨by decide, y_w 567 (by decide +kernel), y_w 568 (by decide +kernel)⟩)⟩
theorem y_cl_152 : y_clok (5, 90, 1, 32, 1) := ⟨y_cd_32, by decide +kernel, Or.inl ⟨by decide, y_w 1069 (by decide +kernel)⟩, Or.inr (Or.inl ⟨by decide, y_w 571 (by decide +kernel), y_w 572 (by decide +kernel)⟩)⟩
theorem y_cl_153 : y_clok (5, 93, 5, 151, 6) := ⟨y_cd_151, by decide +kernel, Or.inr ⟨by decide, "NumberSpeech", y_w 1070 (by decide +kernel)⟩, Or.inl ⟨by decide, y_w 578 (by decide +kernel)⟩⟩
theorem y_cl_154 : y_clok (11, 253, 1, 52, 0) := ⟨y_cd_52, by decide +kernel, Or.inl ⟨by decide, y_w 1072 (by decide +kernel)⟩, Or.inr (Or.inl ⟨by decide, y_w 1073 (by decide +kernel), y_w 1074 (by decide +kernel)⟩)⟩
theorem y_cl_155 : y_clok (5, 101, 1, 47, 1) := ⟨y_cd_47, by decide +kernel, Or.inl ⟨by decide, y_w 1076 (by decide +kernel)⟩, Or.inr (Or.inl ⟨by decide, y_w 1077 (by decide +kernel), y_w 1078 (by decide +kernel)⟩)⟩
theorem y_cl_156 : y_clok (5, 104, 1, 53, 2) := ⟨y_cd_53, by decide +kernel, Or.inl ⟨by decide, y_w 1080 (by decide +kernel)⟩, Or.inr (Or.inl ⟨by decide, y_w 1082 (by decide +kernel), List.mem_append_left _ (List.mem_of_getElem? (i := 34) (by decide +kernel))⟩)⟩
theorem y_cl_157 : y_clok (13, 177, 0, 256, 5) := ⟨y_cd_256, by decide +kernel, Or.inl ⟨by decide, y_w 1084 (by decide +kernel)⟩, Or.inl ⟨by decide, y_w 1085 (by decide +kernel)⟩⟩
theorem y_cl_158 : y_clok (13, 65, 1, 126, 3) := ⟨y_cd_126, by decide +kernel, Or.inl ⟨by decide, y_w 1087 (by decide +kernel)⟩, Or.inr (Or.inl ⟨by decide, y_w 1088 (by decide +kernel), y_w 1089 (by decide +kernel)⟩)⟩
theorem y_cl_159 : y_clok (11, 268, 1, 48, 3) := ⟨y_cd_48, by decide +kernel, Or.inl ⟨by decide, y_w 1091 (by decide +kernel)⟩, Or.inr (Or.inl ⟨by decide, y_w 1092 (by decide +kernel), y_w 1093 (by decide +kernel)⟩)⟩
theorem y_cl_160 : y_clok (5, 97, 1, 51, 4) := ⟨y_cd_51, by decide +kernel, Or.inl ⟨by decide, y_w 1095 (by decide +kernel)⟩, Or.inr (Or.inl ⟨by decide, y_w 1097 (by decide +kernel), List.mem_append_left _ (List.mem_of_getElem? (i := 35) (by decide +kernel))⟩)⟩
theorem y_cl_161 : y_clok (11, 272, 1, 49, 0) := ⟨y_cd_49, by decide +kernel, Or.inl ⟨by decide, y_w 1099 (by decide +kernel)⟩, Or.inr (Or.inl ⟨by decide, y_w 1100 (by decide +kernel), y_w 1101 (by decide +kernel)⟩)⟩
theorem y_cl_162 : y_clok (11, 275, 1, 50, 0) := ⟨y_cd_50, by decide +kernel, Or.inl ⟨by decide, y_w 1103 (by decide +kernel)⟩, Or.inr (Or.inl ⟨by decide, y_w 1104 (by decide +kernel), y_w 1105 (by decide +kernel)⟩)⟩
theorem y_cl_163 : y_clok (13, 180, 0, 257, 5) := ⟨y_cd_257, by decide +kernel, Or.inl ⟨by decide, y_w 1107 (by decide +kernel)⟩, Or.inl ⟨by decide, y_w 1108 (by decide +kernel)⟩⟩
theorem y_cl_164 : y_clok (13, 68, 1, 127, 3) := ⟨y_cd_127, by decide +kernel, Or.inl ⟨by decide, y_w 1110 (by decide +kernel)⟩, Or.inr (Or.inl ⟨by decide, y_w 1111 (by decide +kernel), y_w 1112 (by decide +kernel)⟩)⟩
theorem y_cl_165 : y_clok (11, 278, 1, 147, 1) := ⟨y_cd_147, by decide +kernel, Or.inl ⟨by decide, y_w 1114 (by decide +kernel)⟩, Or.inr (Or.inl ⟨by decide, y_w 1116 (by decide +kernel), List.mem_append_left _ (List.mem_of_getElem? (i := 36) (by decide +kernel))⟩)⟩
theorem y_cl_166 : y_clok (11, 356, 1, 12, 2) := ⟨y_cd_12, by decide +kernel, Or.inl ⟨by decide, y_w 1118 (by decide +kernel)⟩, Or.inr (Or.inl ⟨by decide, y_w 1119 (by decide +kernel), y_w 1120 (by decide +kernel)⟩)⟩
theorem y_cl_167 : y_clok (2, 42, 5, 148, 1) := ⟨y_cd_148, by decide +kernel, Or.inr ⟨by decide, "NumberSpeech", y_w 1122 (by decide +kernel)⟩, Or.inl ⟨by decide, y_w 695 (by decide +kernel)⟩⟩
theorem y_cl_168 : y_clok (2, 46, 1, 13, 1) := ⟨y_cd_13, by decide +kernel, Or.inl ⟨by decide, y_w 1123 (by decide +kernel)⟩, Or.inr (Or.inl ⟨by decide, y_w 1125 (by decide +kernel), List.mem_append_left _ (List.mem_of_getElem? (i := 37) (by decide +kernel))⟩)⟩
theorem y_cl_169 : y_clok (2, 54, 1, 15, 2) := ⟨y_cd_15, by decide +kernel, Or.inl ⟨by decide, y_w 1127 (by decide +kernel)⟩, Or.inr (Or.inl ⟨by decide, y_w 1129 (by decide +kernel), List.mem_append_left _ (List.mem_of_getElem? (i := 38) (by decide +kernel))⟩)⟩
theorem y_cl_170 : y_clok (2, 50, 1, 14, 2) := ⟨y_cd_14, by decide +kernel, Or.inl ⟨by decide, y_w 1131 (by decide +kernel)⟩, Or.inr (Or.inl ⟨by decide, y_w 1133 (by decide +kernel), List.mem_append_left _ (List.mem_of_getElem? (i := 39) (by decide +kernel))⟩)⟩
theorem y_cl_171 : y_clok (11, 281, 1, 16, 1) := ⟨y_cd_16, by decide +kernel, Or.inl ⟨by decide, y_w 1136 (by decide +kernel)⟩, Or.inr (Or.inl ⟨by decide, y_w 1137 (by decide +kernel), y_w 1138 (by decide +kernel)⟩)⟩
theorem y_cl_172 : y_clok (2, 57, 1, 17, 2) := ⟨y_cd_17, by decide +kernel, Or.inl ⟨by decide, y_w 1140 (by decide +kernel)⟩, Or.inr (Or.inl ⟨by decide, y_w 1142 (by decide +kernel), List.mem_append_left _ (List.mem_of_getElem? (i := 40) (by decide +kernel))⟩)⟩
theorem y_cl_173 : y_clok (2, 61, 1, 48, 3) := ⟨y_cd_48, by decide +kernel, Or.inl ⟨by decide, y_w 1144 (by decide +kernel)⟩, Or.inr (Or.inl ⟨by decide, y_w 1092 (by decide +kernel), y_w 1093 (by decide +kernel)⟩)⟩
theorem y_cl_174 : y_clok (2, 75, 1, 49, 0) := ⟨y_cd_49, by decide +kernel, Or.inl ⟨by decide, y_w 1149 (by decide +kernel)⟩, Or.inr (Or.inl ⟨by decide, y_w 1100 (by decide +kernel), y_w 1101 (by decide +kernel)⟩)⟩
theorem y_cl_175 : y_clok (11, 285, 1, 18, 0) := ⟨y_cd_18, by decide +kernel, Or.inl ⟨by decide, y_w 1150 (by decide +kernel)⟩, Or.inr (Or.inl ⟨by decide, y_w 1151 (by decide +kernel), y_w 1152 (by decide +kernel)⟩)⟩
theorem y_cl_176 : y_clok (11, 288, 1, 19, 0) := ⟨y_cd_19, by decide +kernel, Or.inl ⟨by decide, y_w 1154 (by decide +kernel)⟩, Or.inr (Or.inl ⟨by decide, y_w 1155 (by decide +kernel), y_w 1156 (by decide +kernel)⟩)⟩
theorem y_cl_177 : y_clok (11, 291, 1, 20, 0) := ⟨y_cd_20, by decide +kernel, Or.inl ⟨by decide, y_w 1158 (by decide +kernel)⟩, Or.inr (Or.inl ⟨by decide, y_w 1159 (by decide +kernel), y_w 1160 (by decide +kernel)⟩)⟩
theorem y_cl_178 : y_clok (13, 183, 0, 258, 6) := ⟨y_cd_258, by decide +kernel, Or.inl ⟨by decide, y_w 1162 (by decide +kernel)⟩, Or.inl ⟨by decide, y_w 1163 (by decide +kernel)⟩⟩
theorem y_cl_179 : y_clok (13, 71, 1, 128, 4) := ⟨y_cd_128, by decide +kernel, Or.inl ⟨by decide, y_w 1165 (by decide +kernel)⟩, Or.inr (Or.inl ⟨by decide, y_w 1166 (by decide +kernel), y_w 1167 (by decide +kernel)⟩)⟩
theorem y_cl_180 : y_clok (11, 294, 1, 21, 2) := ⟨y_cd_21, by decide +kernel, Or.inl ⟨by decide, y_w 1169 (by decide +kernel)⟩, Or.inr (Or.inl ⟨by decide, y_w 1170 (by decide +kernel), y_w 1171 (by decide +kernel)⟩)⟩
theorem y_cl_181 : y_clok (13, 186, 0, 259, 4) := ⟨y_cd_259, by decide +kernel, Or.inl ⟨by decide, y_w 1173 (by decide +kernel)⟩, Or.inl ⟨by decide, y_w 1174 (by decide +kernel)⟩⟩
theorem y_cl_182 : y_clok (13, 74, 1, 129, 2) := ⟨y_cd_129, by decide +kernel, Or.inl ⟨by decide, y_w 1176 (by decide +kernel)⟩, Or.inr (Or.inl ⟨by decide, y_w 1177 (by decide +kernel), y_w 1178 (by decide +kernel)⟩)⟩
theorem y_cl_183 : y_clok (13, 189, 0, 260, 4) := ⟨y_cd_260, by decide +kernel, Or.inl ⟨by decide, y_w 1180 (by decide +kernel)⟩, Or.inl ⟨by decide, y_w 1181 (by decide +kernel)⟩⟩
theorem y_cl_184 : y_clok (13, 77, 1, 130, 2) := ⟨y_cd_130, by decide +kernel, Or.inl ⟨by decide, y_w 1183 (by decide +kernel)⟩, Or.inr (Or.inl ⟨by decide, y_w 1184 (by decide +kernel), y_w 1185 (by decide +kernel)⟩)⟩
theorem y_cl_185 : y_clok (11, 301, 1, 31, 1) := ⟨y_cd_31, by decide +kernel, Or.inl ⟨by decide, y_w 1187 (by decide +kernel)⟩, Or.inr (Or.inl ⟨by decide, y_w 567 (by decide +kernel), y_w 568 (by decide +kernel)⟩)⟩
theorem y_cl_186 : y_clok (13, 196, 0, 261, 4) := ⟨y_cd_261, by decide +kernel, Or.inl ⟨by decide, y_w 1188 (by decide +kernel)⟩, Or.inl ⟨by decide, y_w 1189 (by decide +kernel)⟩⟩
theorem y_cl_187 : y_clok (13, 80, 1, 132, 2) := ⟨y_cd_132, by decide +kernel, Or.inl ⟨by decide, y_w 1191 (by decide +kernel)⟩, Or.inr (Or.inl ⟨by decide, y_w 1192 (by decide +kernel), y_w 1193 (by decide +kernel)⟩)⟩
theorem y_cl_188 : y_clok (11, 308, 1, 47, 1) := ⟨y_cd_47, by decide +kernel, Or.inl ⟨by decide, y_w 1195 (by decide +kernel)⟩, Or.inr (Or.inl ⟨by decide, y_w 1077 (by decide +kernel), y_w 1078 (by decide +kernel)⟩)⟩
theorem y_cl_189 : y_clok (13, 199, 0, 262, 4) := ⟨y_cd_262, by decide +kernel, Or.inl ⟨by decide, y_w 1196 (by decide +kernel)⟩, Or.inl ⟨by decide, y_w 1197 (by decide +kernel)⟩⟩
theorem y_cl_190 : y_clok (13, 83, 1, 133, 2) := ⟨y_cd_133, by decide +kernel, Or.inl ⟨by decide, y_w 1199 (by decide +kernel)⟩, Or.inr (Or.inl ⟨by decide, y_w 1200 (by decide +kernel), y_w 1201 (by decide +kernel)⟩)⟩
theorem y_cl_191 : y_clok (13, 202, 0, 263, 5) := ⟨y_cd_263, by decide +kernel, Or.inl ⟨by decide, y_w 1203 (by decide +kernel)⟩, Or.inl ⟨by decide, y_w 1204 (by decide +kernel)⟩⟩
theorem y_cl_192 : y_clok (13, 86, 1, 134, 3) := ⟨y_cd_134, by decide +kernel, Or.inl ⟨by decide, y_w 1206 (by decide +kernel)⟩, Or.inr (Or.inl ⟨by decide, y_w 1207 (by decide +kernel), y_w 1208 (by decide +kernel)⟩)⟩
theorem y_cl_193 : y_clok (11, 311, 1, 135, 2) := ⟨y_cd_135, by decide +kernel, Or.inl ⟨by decide, y_w 1210 (by decide +kernel)⟩, Or.inr (Or.inl ⟨by decide, y_w 1212 (by decide +kernel), List.mem_append_left _ (List.mem_of_getElem? (i := 41) (by decide +kernel))⟩)⟩
theorem y_cl_194 : y_clok (13, 205, 0, 264, 3) := ⟨y_cd_264, by decide +kernel, Or.inl ⟨by decide, y_w 1214 (by decide +kernel)⟩, Or.inl ⟨by decide, y_w 1215 (by decide +kernel)⟩⟩
theorem y_cl_195 : y_clok (13, 89, 1, 136, 1) := ⟨y_cd_136, by decide +kernel, Or.inl ⟨by decide, y_w 1217 (by decide +kernel)⟩, Or.inr (Or.inl ⟨by decide, y_w 1218 (by decide +kernel), y_w 1219 (by decide +kernel)⟩)⟩
theorem y_cl_196 : y_clok (13, 208, 0, 265, 4) := ⟨y_cd_265, by decide +kernel, Or.inl ⟨by decide, y_w 1221 (by decide +kernel)⟩, Or.inl ⟨by decide, y_w 1222 (by decide +kernel)⟩⟩
theorem y_cl_197 : y_clok (13, 92, 1, 137, 2) := ⟨y_cd_137, by decide +kernel, Or.inl ⟨by decide, y_w 1224 (by decide +kernel)⟩, Or.inr (Or.inl ⟨by decide, y_w 1225 (by decide +kernel), y_w 1226 (by decide +kernel)⟩)⟩
theorem y_cl_198 : y_clok (11, 315, 1, 97, 2) := ⟨y_cd_97, by decide +kernel, Or.inl ⟨by decide, y_w 1228 (by decide +kernel)⟩, Or.inr (Or.inl ⟨by decide, y_w 1229 (by decide +kernel), y_w 1230 (by decide +kernel)⟩)⟩
theorem y_cl_199 : y_clok (10, 29, 0, 269, 2) := ⟨y_cd_269, by decide +kernel, Or.inl ⟨by decide, y_w 1232 (by decide +kernel)⟩, Or.inl ⟨by decide, y_w 170 (by decide +kernel)⟩⟩
theorem y_cl_200 : y_clok (10, 35, 1, 84, 1) := ⟨y_cd_84, by decide +kernel, Or.inl ⟨by decide, y_w 1233 (by decide +kernel)⟩, Or.inr (Or.inl ⟨by decide, y_w 459 (by decide +kernel), y_w 460 (by decide +kernel)⟩)⟩
theorem y_cl_201 : y_clok (10, 51, 1, 31, 1) := ⟨y_cd_31, by decide +kernel, Or.inl ⟨by decide, y_w 1234 (by decide +kernel)⟩, Or.inr (Or.inl ⟨by decide, y_w 567 (by decide +kernel), y_w 568 (by decide +kernel)⟩)⟩
theorem y_cl_202 : y_clok (10, 55, 1, 32, 1) := ⟨y_cd_32, by decide +kernel, Or.inl ⟨by decide, y_w 1235 (by decide +kernel)⟩, Or.inr (Or.inl ⟨by decide, y_w 571 (by decide +kernel), y_w 572 (by decide +kernel)⟩)⟩
theorem y_cl_203 : y_clok (10, 58, 1, 98, 3) := ⟨y_cd_98, by decide +kernel, Or.inl ⟨by decide, y_w 1236 (by decide +kernel)⟩, Or.inr (Or.inl ⟨by decide, y_w 1238 (by decide +kernel), List.mem_append_left _ (List.mem_of_getElem? (i := 42) (by decide +kernel))⟩)⟩
theorem y_cl_204 : y_clok (10, 72, 1, 99, 3) := ⟨y_cd_99, by decide +kernel, Or.inl ⟨by decide, y_w 1241 (by decide +kernel)⟩, Or.inr (Or.inl ⟨by decide, y_w 1243 (by decide +kernel), List.mem_append_left _ (List.mem_of_getElem? (i := 43) (by decide +kernel))⟩)⟩
theorem y_cl_205 : y_clok (10, 75, 5, 151, 6) := ⟨y_cd_151, by decide +kernel, Or.inr ⟨by decide, "NumberSpeech", y_w 1245 (by decide +kernel)⟩, Or.inl ⟨by decide, y_w 578 (by decide +kernel)⟩⟩
theorem y_cl_206 : y_clok (10, 62, 1, 100, 1) := ⟨y_cd_100, by decide +kernel, Or.inl ⟨by decide, y_w 1246 (by decide +kernel)⟩, Or.inr (Or.inl ⟨by decide, y_w 1248 (by decide +kernel), List.mem_append_left _ (List.mem_of_getElem? (i := 44) (by decide +kernel))⟩)⟩
theorem y_cl_207 : y_clok (10, 79, 1, 101, 3) := ⟨y_cd_101, by decide +kernel, Or.inl ⟨by decide, y_w 1250 (by decide +kernel)⟩, Or.inr (Or.inl ⟨by decide, y_w 1252 (by decide +kernel), List.mem_append_left _ (List.mem_of_getElem? (i := 45) (by decide +kernel))⟩)⟩
theorem y_cl_208 : y_clok (11, 322, 1, 102, 0) := ⟨y_cd_102, by decide +kernel, Or.inl ⟨by decide, y_w 1254 (by decide +kernel)⟩, Or.inr (Or.inl ⟨by decide, y_w 1255 (by decide +kernel), y_w 1256 (by decide +kernel)⟩)⟩
theorem y_cl_209 : y_clok (11, 325, 1, 103, 0) := ⟨y_cd_103, by decide +kernel, Or.inl ⟨by decide, y_w 1258 (by decide +kernel)⟩, Or.inr (Or.inl ⟨by decide, y_w 1259 (by decide +kernel), y_w 1260 (by decide +kernel)⟩)⟩
theorem y_cl_210 : y_clok (13, 211, 0, 266, 3) := ⟨y_cd_266, by decide +kernel, Or.inl ⟨by decide, y_w 1262 (by decide +kernel)⟩, Or.inl ⟨by decide, y_w 1263 (by decide +kernel)⟩⟩
theorem y_cl_211 : y_clok (13, 95, 1, 138, 1) := ⟨y_cd_138, by decide +kernel, Or.inl ⟨by decide, y_w 1265 (by decide +kernel)⟩, Or.inr (Or.inl ⟨by decide, y_w 1266 (by decide +kernel), y_w 1267 (by decide +kernel)⟩)⟩
theorem y_cl_212 : y_clok (11, 328, 1, 85, 1) := ⟨y_cd_85, by decide +kernel, Or.inl ⟨by decide, y_w 1269 (by decide +kernel)⟩, Or.inr (Or.inl ⟨by decide, y_w 1270 (by decide +kernel), y_w 1271 (by decide +kernel)⟩)⟩
theorem y_cl_213 : y_clok (11, 331, 1, 86, 1) := ⟨y_cd_86, by decide +kernel, Or.inl ⟨by decide, y_w 1273 (by decide +kernel)⟩, Or.inr (Or.inl ⟨by decide, y_w 1274 (by decide +kernel), y_w 1275 (by decide +kernel)⟩)⟩
theorem y_cl_214 : y_clok (13, 214, 0, 267, 3) := ⟨y_cd_267, by decide +kernel, Or.inl ⟨by decide, y_w 1277 (by decide +kernel)⟩, Or.inl ⟨by decide, y_w 1278 (by decide +kernel)⟩⟩
theorem y_cl_215 : y_clok (13, 98, 1, 139, 1) := ⟨y_cd_139, by decide +kernel, Or.inl ⟨by decide, y_w 1280 (by decide +kernel)⟩, Or.inr (Or.inl ⟨by decide, y_w 1281 (by decide +kernel), y_w 1282 (by decide +kernel)⟩)⟩
theorem y_cl_216 : y_clok (11, 336, 1, 39, 1) := ⟨y_cd_39, by decide +kernel, Or.inl ⟨by decide, y_w 1285 (by decide +kernel)⟩, Or.inr (Or.inl ⟨by decide, y_w 1286 (by decide +kernel), y_w 1287 (by decide +kernel)⟩)⟩
theorem y_cl_217 : y_clok (13, 105, 2, 152, 0) := ⟨y_cd_152, by decide +kernel, Or.inl ⟨by decide, y_w 1291 (by decide +kernel)⟩, Or.inr (Or.inr ⟨by decide, by decide +kernel, y_w 1292 (by decide +kernel)⟩)⟩
theorem y_cl_218 : y_clok (13, 117, 1, 153, 0) := ⟨y_cd_153, by decide +kernel, Or.inl ⟨by decide, y_w 1457 (by decide +kernel)⟩, Or.inr (Or.inl ⟨by decide, y_w 1458 (by decide +kernel), y_w 1459 (by decide +kernel)⟩)⟩
theorem y_cl_219 : y_clok (13, 110, 1, 157, 5) := ⟨y_cd_157, by decide +kernel, Or.inl ⟨by decide, y_w 1461 (by decide +kernel)⟩, Or.inr (Or.inl ⟨by decide, y_w 1462 (by decide +kernel), y_w 1463 (by decide +kernel)⟩)⟩
theorem y_cl_220 : y_clok (13, 116, 1, 176, 1) := ⟨y_cd_176, by decide +kernel, Or.inl ⟨by decide, y_w 1465 (by decide +kernel)⟩, Or.inr (Or.inl ⟨by decide, y_w 1466 (by decide +kernel), y_w 1467 (by decide +kernel)⟩)⟩
theorem y_cl_221 : y_clok (12, 230, 0, 155, 3) := ⟨y_cd_155, by decide +kernel, Or.inl ⟨by decide, y_w 1469 (by decide +kernel)⟩, Or.inl ⟨by decide, y_w 1470 (by decide +kernel)⟩⟩
theorem y_cl_222 : y_clok (12, 234, 1, 154, 3) := ⟨y_cd_154, by decide +kernel, Or.inl ⟨by decide, y_w 1472 (by decide +kernel)⟩, Or.inr (Or.inl ⟨by decide, y_w 1474 (by decide +kernel), List.mem_append_left _ (List.mem_of_getElem? (i := 46) (by decide +kernel))⟩)⟩
theorem y_cl_223 : y_clok (12, 238, 1, 175, 2) := ⟨y_cd_175, by decide +kernel, Or.inl ⟨by decide, y_w 1476 (by decide +kernel)⟩, Or.inr (Or.inl ⟨by decide, y_w 1478 (by decide +kernel), List.mem_append_left _ (List.mem_of_getElem? (i := 47) (by decide +kernel))⟩)⟩
theorem y_cl_224 : y_clok (12, 207, 1, 167, 1) := ⟨y_cd_167, by decide +kernel, Or.inl ⟨by decide, y_w 1481 (by decide +kernel)⟩, Or.inr (Or.inl ⟨by decide, y_w 1483 (by decide +kernel), List.mem_append_left _ (List.mem_of_getElem? (i := 48) (by decide +kernel))⟩)⟩
theorem y_cl_225 : y_clok (12, 143, 1, 160, 0) := ⟨y_cd_160, by decide +kernel, Or.inl ⟨by decide, y_w 1485 (by decide +kernel)⟩, Or.inr (Or.inl ⟨by decide, y_w 1487 (by decide +kernel), List.mem_append_left _ (List.mem_of_getElem? (i := 49) (by decide +kernel))⟩)⟩
theorem y_cl_226 : y_clok (12, 179, 1, 166, 1) := ⟨y_cd_166, by decide +kernel, Or.inl ⟨by decide, y_w 1489 (by decide +kernel)⟩, Or.inr (Or.inl ⟨by decide, y_w 1491 (by decide +kernel), List.mem_append_left _ (List.mem_of_getElem? (i := 50) (by decide +kernel))⟩)⟩
theorem y_cl_227 : y_clok (12, 168, 1, 165, 0) := ⟨y_cd_165, by decide +kernel, Or.inl ⟨by decide, y_w 1493 (by decide +kernel)⟩, Or.inr (Or.inl ⟨by decide, y_w 1495 (by decide +kernel), List.mem_append_left _ (List.mem_of_getElem? (i := 51) (by decide +kernel))⟩)⟩
theorem y_cl_228 : y_clok (12, 147, 1, 159, 0) := ⟨y_cd_159, by decide +kernel, Or.inl ⟨by decide, y_w 1497 (by decide +kernel)⟩, Or.inr (Or.inl ⟨by decide, y_w 1499 (by decide +kernel), List.mem_append_left _ (List.mem_of_getElem? (i := 52) (by decide +kernel))⟩)⟩
theorem y_cl_229 : y_clok (12, 133, 1, 158, 1) := ⟨y_cd_158, by decide +kernel, Or.inl ⟨by decide, y_w 1501 (by decide +kernel)⟩, Or.inr (Or.inl ⟨by decide, y_w 1503 (by decide +kernel), List.mem_append_left _ (List.mem_of_getElem? (i := 53) (by decide +kernel))⟩)⟩
theorem y_cl_230 : y_clok (12, 165, 0, 163, 1) := ⟨y_cd_163, by decide +kernel, Or.inl ⟨by decide, y_w 1505 (by decide +kernel)⟩, Or.inl ⟨by decide, y_w 1506 (by decide +kernel)⟩⟩
theorem y_cl_231 : y_clok (12, 155, 1, 161, 2) := ⟨y_cd_161, by decide +kernel, Or.inl ⟨by decide, y_w 1510 (by decide +kernel)⟩, Or.inr (Or.inl ⟨by decide, y_w 1512 (by decide +kernel), List.mem_append_left _ (List.mem_of_getElem? (i := 54) (by decide +kernel))⟩)⟩
theorem y_cl_232 : y_clok (12, 187, 1, 164, 2) := ⟨y_cd_164, by decide +kernel, Or.inl ⟨by decide, y_w 1514 (by decide +kernel)⟩, Or.inr (Or.inl ⟨by decide, y_w 1516 (by decide +kernel), List.mem_append_left _ (List.mem_of_getElem? (i := 55) (by decide +kernel))⟩)⟩
theorem y_cl_233 : y_clok (12, 151, 0, 162, 1) := ⟨y_cd_162, by decide +kernel, Or.inl ⟨by decide, y_w 1518 (by decide +kernel)⟩, Or.inl ⟨by decide, y_w 1519 (by decide +kernel)⟩⟩
theorem y_cl_234 : y_clok (12, 195, 1, 168, 0) := ⟨y_cd_168, by decide +kernel, Or.inl ⟨by decide, y_w 1524 (by decide +kernel)⟩, Or.inr (Or.inl ⟨by decide, y_w 1526 (by decide +kernel), List.mem_append_left _ (List.mem_of_getElem? (i := 56) (by decide +kernel))⟩)⟩
theorem y_cl_235 : y_clok (12, 221, 1, 174, 2) := ⟨y_cd_174, by decide +kernel, Or.inl ⟨by decide, y_w 1528 (by decide +kernel)⟩, Or.inr (Or.inl ⟨by decide, y_w 1530 (by decide +kernel), List.mem_append_left _ (List.mem_of_getElem? (i := 57) (by decide +kernel))⟩)⟩
theorem y_cl_236 : y_clok (12, 215, 1, 173, 4) := ⟨y_cd_173, by decide +kernel, Or.inl ⟨by decide, y_w 1532 (by decide +kernel)⟩, Or.inr (Or.inl ⟨by decide, y_w 1534 (by decide +kernel), List.mem_append_left _ (List.mem_of_getElem? (i := 58) (by decide +kernel))⟩)⟩
theorem y_cl_237 : y_clok (12, 224, 1, 172, 0) := ⟨y_cd_172, by decide +kernel, Or.inl ⟨by decide, y_w 1536 (by decide +kernel)⟩, Or.inr (Or.inl ⟨by decide, y_w 1538 (by decide +kernel), List.mem_append_left _ (List.mem_of_getElem? (i := 59) (by decide +kernel))⟩)⟩
theorem y_cl_238 : y_clok (12, 211, 1, 171, 2) := ⟨y_cd_171, by decide +kernel, Or.inl ⟨by decide, y_w 1545 (by decide +kernel)⟩, Or.inr (Or.inl ⟨by decide, y_w 1547 (by decide +kernel), List.mem_append_left _ (List.mem_of_getElem? (i := 60) (by decide +kernel))⟩)⟩
theorem y_cl_239 : y_clok (12, 183, 0, 169, 1) := ⟨y_cd_169, by decide +kernel, Or.inl ⟨by decide, y_w 1549 (by decide +kernel)⟩, Or.inl ⟨by decide, y_w 1550 (by decide +kernel)⟩⟩
theorem y_cl_240 : y_clok (12, 191, 1, 170, 3) := ⟨y_cd_170, by decide +kernel, Or.inl ⟨by decide, y_w 1552 (by decide +kernel)⟩, Or.inr (Or.inl ⟨by decide, y_w 1554 (by decide +kernel), List.mem_append_left _ (List.mem_of_getElem? (i := 61) (by decide +kernel))⟩)⟩
theorem y_cl_241 : y_clok (12, 227, 1, 179, 0) := ⟨y_cd_179, by decide +kernel, Or.inl ⟨by decide, y_w 1557 (by decide +kernel)⟩, Or.inr (Or.inl ⟨by decide, y_w 1559 (by decide +kernel), List.mem_append_left _ (List.mem_of_getElem? (i := 62) (by decide +kernel))⟩)⟩
theorem y_cl_242 : y_clok (13, 127, 1, 177, 1) := ⟨y_cd_177, by decide +kernel, Or.inl ⟨by decide, y_w 1561 (by decide +kernel)⟩, Or.inr (Or.inl ⟨by decide, y_w 1562 (by decide +kernel), y_w 1563 (by decide +kernel)⟩)⟩
theorem y_cl_243 : y_clok (13, 124, 1, 178, 0) := ⟨y_cd_178, by decide +kernel, Or.inl ⟨by decide, y_w 1565 (by decide +kernel)⟩, Or.inr (Or.inl ⟨by decide, y_w 1566 (by decide +kernel), y_w 1567 (by decide +kernel)⟩)⟩
theorem y_cl_244 : y_clok (13, 141, 1, 180, 0) := ⟨y_cd_180, by decide +kernel, Or.inl ⟨by decide, y_w 1569 (by decide +kernel)⟩, Or.inr (Or.inl ⟨by decide, y_w 1570 (by decide +kernel), y_w 1571 (by decide +kernel)⟩)⟩
theorem y_cl_245 : y_clok (13, 130, 1, 181, 1) := ⟨y_cd_181, by decide +kernel, Or.inl ⟨by decide, y_w 1573 (by decide +kernel)⟩, Or.inr (Or.inl ⟨by decide, y_w 1574 (by decide +kernel), y_w 1575 (by decide +kernel)⟩)⟩
theorem y_cl_246 : y_clok (13, 134, 1, 185, 2) := ⟨y_cd_185, by decide +kernel, Or.inl ⟨by decide, y_w 1577 (by decide +kernel)⟩, Or.inr (Or.inl ⟨by decide, y_w 1578 (by decide +kernel), y_w 1579 (by decide +kernel)⟩)⟩
theorem y_cl_247 : y_clok (12, 248, 1, 183, 2) := ⟨y_cd_183, by decide +kernel, Or.inl ⟨by decide, y_w 1581 (by decide +kernel)⟩, Or.inr (Or.inl ⟨by decide, y_w 1583 (by decide +kernel), List.mem_append_left _ (List.mem_of_getElem? (i := 63) (by decide +kernel))⟩)⟩
theorem y_cl_248 : y_clok (12, 245, 0, 182, 1) := ⟨y_cd_182, by decide +kernel, Or.inl ⟨by decide, y_w 1585 (by decide +kernel)⟩, Or.inl ⟨by decide, y_w 1586 (by decide +kernel)⟩⟩
theorem y_cl_249 : y_clok (12, 252, 1, 184, 2) := ⟨y_cd_184, by decide +kernel, Or.inl ⟨by decide, y_w 1588 (by decide +kernel)⟩, Or.inr (Or.inl ⟨by decide, y_w 1590 (by decide +kernel), List.mem_append_left _ (List.mem_of_getElem? (i := 64) (by decide +kernel))⟩)⟩
theorem y_cl_250 : y_clok (13, 137, 1, 200, 2) := ⟨y_cd_200, by decide +kernel, Or.inl ⟨by decide, y_w 1592 (by decide +kernel)⟩, Or.inr (Or.inl ⟨by decide, y_w 1593 (by decide +kernel), y_w 1594 (by decide +kernel)⟩)⟩
theorem y_cl_251 : y_clok (12, 308, 1, 197, 1) := ⟨y_cd_197, by decide +kernel, Or.inl ⟨by decide, y_w 1596 (by decide +kernel)⟩, Or.inr (Or.inl ⟨by decide, y_w 1598 (by decide +kernel), List.mem_append_left _ (List.mem_of_getElem? (i := 65) (by decide +kernel))⟩)⟩
theorem y_cl_252 : y_clok (12, 301, 1, 194, 1) := ⟨y_cd_194, by decide +kernel, Or.inl ⟨by decide, y_w 1600 (by decide +kernel)⟩, Or.inr (Or.inl ⟨by decide, y_w 1602 (by decide +kernel), List.mem_append_left _ (List.mem_of_getElem? (i := 66) (by decide +kernel))⟩)⟩
theorem y_cl_253 : y_clok (12, 292, 1, 193, 2) := ⟨y_cd_193, by decide +kernel, Or.inl ⟨by decide, y_w 1604 (by decide +kernel)⟩, Or.inr (Or.inl ⟨by decide, y_w 1606 (by decide +kernel), List.mem_append_left _ (List.mem_of_getElem? (i := 67) (by decide +kernel))⟩)⟩
theorem y_cl_254 : y_clok (12, 288, 1, 191, 2) := ⟨y_cd_191, by decide +kernel, Or.inl ⟨by decide, y_w 1608 (by decide +kernel)⟩, Or.inr (Or.inl ⟨by decide, y_w 1610 (by decide +kernel), List.mem_append_left _ (List.mem_of_getElem? (i := 68) (by decide +kernel))⟩)⟩
theorem y_cl_255 : y_clok (12, 265, 1, 188, 4) := ⟨y_cd_188, by decide +kernel, Or.inl ⟨by decide, y_w 1612 (by decide +kernel)⟩, Or.inr (Or.inl ⟨by decide, y_w 1614 (by decide +kernel), List.mem_append_left _ (List.mem_of_getElem? (i := 69) (by decide +kernel))⟩)⟩
theorem y_cl_256 : y_clok (12, 269, 1, 189, 1) := ⟨y_cd_189, by decide +kernel, Or.inl ⟨by decide, y_w 1616 (by decide +kernel)⟩, Or.inr (Or.inl ⟨by decide, y_w 1618 (by decide +kernel), List.mem_append_left _ (List.mem_of_getElem? (i := 70) (by decide +kernel))⟩)⟩
theorem y_cl_257 : y_clok (12, 275, 1, 187, 2) := ⟨y_cd_187, by decide +kernel, Or.inl ⟨by decide, y_w 1620 (by decide +kernel)⟩, Or.inr (Or.inl ⟨by decide, y_w 1622 (by decide +kernel), List.mem_append_left _ (List.mem_of_getElem? (i := 71) (by decide +kernel))⟩)⟩
theorem y_cl_258 : y_clok (12, 278, 1, 192, 3) := ⟨y_cd_192, by decide +kernel, Or.inl ⟨by decide, y_w 1624 (by decide +kernel)⟩, Or.inr (Or.inl ⟨by decide, y_w 1626 (by decide +kernel), List.mem_append_left _ (List.mem_of_getElem? (i := 72) (by decide +kernel))⟩)⟩
theorem y_cl_259 : y_clok (12, 284, 0, 190, 3) := ⟨y_cd_190, by decide +kernel, Or.inl ⟨by decide, y_w 1628 (by decide +kernel)⟩, Or.inl ⟨by decide, y_w 1629 (by decide +kernel)⟩⟩
theorem y_cl_260 : y_clok (12, 311, 1, 186, 2) := ⟨y_cd_186, by decide +kernel, Or.inl ⟨by decide, y_w 1632 (by decide +kernel)⟩, Or.inr (Or.inl ⟨by decide, y_w 1634 (by decide +kernel), List.mem_append_left _ (List.mem_of_getElem? (i := 73) (by decide +kernel))⟩)⟩
theorem y_cl_261 : y_clok (12, 314, 1, 199, 0) := ⟨y_cd_199, by decide +kernel, Or.inl ⟨by decide, y_w 1636 (by decide +kernel)⟩, Or.inr (Or.inl ⟨by decide, y_w 1638 (by decide +kernel), List.mem_append_left _ (List.mem_of_getElem? (i := 74) (by decide +kernel))⟩)⟩
theorem y_cl_262 : y_clok (12, 305, 1, 198, 1) := ⟨y_cd_198, by decide +kernel, Or.inl ⟨by decide, y_w 1640 (by decide +kernel)⟩, Or.inr (Or.inl ⟨by decide, y_w 1642 (by decide +kernel), List.mem_append_left _ (List.mem_of_getElem? (i := 75) (by decide +kernel))⟩)⟩
theorem y_cl_263 : y_clok (13, 144, 1, 201, 1) := ⟨y_cd_201, by decide +kernel, Or.inl ⟨by decide, y_w 1644 (by decide +kernel)⟩, Or.inr (Or.inl ⟨by decide, y_w 1645 (by decide +kernel), y_w 1646 (by decide +kernel)⟩)⟩
theorem y_cl_264 : y_clok (13, 148, 1, 203, 3) := ⟨y_cd_203, by decide +kernel, Or.inl ⟨by decide, y_w 1648 (by decide +kernel)⟩, Or.inr (Or.inl ⟨by decide, y_w 1649 (by decide +kernel), y_w 1650 (by decide +kernel)⟩)⟩
theorem y_cl_265 : y_clok (12, 317, 1, 202, 2) := ⟨y_cd_202, by decide +kernel, Or.inl ⟨by decide, y_w 1652 (by decide +kernel)⟩, Or.inr (Or.inl ⟨by decide, y_w 1654 (by decide +kernel), List.mem_append_left _ (List.mem_of_getElem? (i := 76) (by decide +kernel))⟩)⟩
theorem y_cl_266 : y_clok (13, 152, 1, 204, 4) := ⟨y_cd_204, by decide +kernel, Or.inl ⟨by decide, y_w 1656 (by decide +kernel)⟩, Or.inr (Or.inl ⟨by decide, y_w 1657 (by decide +kernel), y_w 1658 (by decide +kernel)⟩)⟩
theorem y_cl_267 : y_clok (13, 155, 1, 205, 2) := ⟨y_cd_205, by decide +kernel, Or.inl ⟨by decide, y_w 1660 (by decide +kernel)⟩, Or.inr (Or.inl ⟨by decide, y_w 1661 (by decide +kernel), y_w 1662 (by decide +kernel)⟩)⟩
theorem y_cl_268 : y_clok (13, 158, 1, 208, 3) := ⟨y_cd_208, by decide +kernel, Or.inl ⟨by decide, y_w 1664 (by decide +kernel)⟩, Or.inr (Or.inl ⟨by decide, y_w 1665 (by decide +kernel), y_w 1666 (by decide +kernel)⟩)⟩
theorem y_cl_269 : y_clok (12, 320, 1, 206, 3) := ⟨y_cd_206, by decide +kernel, Or.inl ⟨by decide, y_w 1668 (by decide +kernel)⟩, Or.inr (Or.inl ⟨by decide, y_w 1670 (by decide +kernel), List.mem_append_left _ (List.mem_of_getElem? (i := 77) (by decide +kernel))⟩)⟩
theorem y_cl_270 : y_clok (12, 324, 1, 207, 3) := ⟨y_cd_207, by decide +kernel, Or.inl ⟨by decide, y_w 1672 (by decide +kernel)⟩, Or.inr (Or.inl ⟨by decide, y_w 1674 (by decide +kernel), List.mem_append_left _ (List.mem_of_getElem? (i := 78) (by decide +kernel))⟩)⟩
theorem y_cl_271 : y_clok (13, 161, 1, 209, 3) := ⟨y_cd_209, by decide +kernel, Or.inl ⟨by decide, y_w 1676 (by decide +kernel)⟩, Or.inr (Or.inl ⟨by decide, y_w 1677 (by decide +kernel), y_w 1678 (by decide +kernel)⟩)⟩
theorem y_cl_272 : y_clok (13, 164, 1, 210, 2) := ⟨y_cd_210, by decide +kernel, Or.inl ⟨by decide, y_w 1680 (by decide +kernel)⟩, Or.inr (Or.inl ⟨by decide, y_w 1681 (by decide +kernel), y_w 1682 (by decide +kernel)⟩)⟩
theorem y_cl_273 : y_clok (13, 167, 1, 211, 2) := ⟨y_cd_211, by decide +kernel, Or.inl ⟨by decide, y_w 1684 (by decide +kernel)⟩, Or.inr (Or.inl ⟨by decide, y_w 1685 (by decide +kernel), y_w 1686 (by decide +kernel)⟩)⟩
theorem y_cl_274 : y_clok (13, 170, 1, 212, 4) := ⟨y_cd_212, by decide +kernel, Or.inl ⟨by decide, y_w 1688 (by decide +kernel)⟩, Or.inr (Or.inl ⟨by decide, y_w 1689 (by decide +kernel), y_w 1690 (by decide +kernel)⟩)⟩
theorem y_cl_275 : y_clok (13, 173, 1, 213, 2) := ⟨y_cd_213, by decide +kernel, Or.inl ⟨by decide, y_w 1692 (by decide +kernel)⟩, Or.inr (Or.inl ⟨by decide, y_w 1693 (by decide +kernel), y_w 1694 (by decide +kernel)⟩)⟩
theorem y_cl_276 : y_clok (13, 198, 1, 216, 2) := ⟨y_cd_216, by decide +kernel, Or.inl ⟨by decide, y_w 1696 (by decide +kernel)⟩, Or.inr (Or.inl ⟨by decide, y_w 1697 (by decide +kernel), y_w 1698 (by decide +kernel)⟩)⟩
theorem y_cl_277 : y_clok (12, 333, 1, 215, 1) := ⟨y_cd_215, by decide +kernel, Or.inl ⟨by decide, y_w 1700 (by decide +kernel)⟩, Or.inr (Or.inl ⟨by decide, y_w 1702 (by decide +kernel), List.mem_append_left _ (List.mem_of_getElem? (i := 79) (by decide +kernel))⟩)⟩
theorem y_cl_278 : y_clok (12, 327, 1, 214, 2) := ⟨y_cd_214, by decide +kernel, Or.inl ⟨by decide, y_w 1704 (by decide +kernel)⟩, Or.inr (Or.inl ⟨by decide, y_w 1706 (by decide +kernel), List.mem_append_left _ (List.mem_of_getElem? (i := 80) (by decide +kernel))⟩)⟩
theorem y_cl_279 : y_clok (12, 298, 1, 195, 2) := ⟨y_cd_195, by decide +kernel, Or.inl ⟨by decide, y_w 1708 (by decide +kernel)⟩, Or.inr (Or.inl ⟨by decide, y_w 1710 (by decide +kernel), List.mem_append_left _ (List.mem_of_getElem? (i := 81) (by decide +kernel))⟩)⟩
theorem y_cl_280 : y_clok (12, 295, 0, 156, 2) := ⟨y_cd_156, by decide +kernel, Or.inl ⟨by decide, y_w 1712 (by decide +kernel)⟩, Or.inl ⟨by decide, y_w 1713 (by decide +kernel)⟩⟩
theorem y_cl_281 : y_clok (13, 176, 1, 217, 2) := ⟨y_cd_217, by decide +kernel, Or.inl ⟨by decide, y_w 1715 (by decide +kernel)⟩, Or.inr (Or.inl ⟨by decide, y_w 1716 (by decide +kernel), y_w 1717 (by decide +kernel)⟩)⟩
theorem y_cl_282 : y_clok (12, 336, 1, 196, 2) := ⟨y_cd_196, by decide +kernel, Or.inl ⟨by decide, y_w 1719 (by decide +kernel)⟩, Or.inr (Or.inl ⟨by decide, y_w 1721 (by decide +kernel), List.mem_append_left _ (List.mem_of_getElem? (i := 82) (by decide +kernel))⟩)⟩
theorem y_cl_283 : y_clok (13, 179, 1, 220, 3) := ⟨y_cd_220, by decide +kernel, Or.inl ⟨by decide, y_w 1723 (by decide +kernel)⟩, Or.inr (Or.inl ⟨by decide, y_w 1724 (by decide +kernel), y_w 1725 (by decide +kernel)⟩)⟩
theorem y_cl_284 : y_clok (12, 352, 1, 219, 3) := ⟨y_cd_219, by decide +kernel, Or.inl ⟨by decide, y_w 1727 (by decide +kernel)⟩, Or.inr (Or.inl ⟨by decide, y_w 1729 (by decide +kernel), List.mem_append_left _ (List.mem_of_getElem? (i := 83) (by decide +kernel))⟩)⟩
theorem y_cl_285 : y_clok (12, 348, 1, 218, 4) := ⟨y_cd_218, by decide +kernel, Or.inl ⟨by decide, y_w 1731 (by decide +kernel)⟩, Or.inr (Or.inl ⟨by decide, y_w 1733 (by decide +kernel), List.mem_append_left _ (List.mem_of_getElem? (i := 84) (by decide +kernel))⟩)⟩
theorem y_cl_286 : y_clok (13, 182, 1, 225, 3) := ⟨y_cd_225, by decide +kernel, Or.inl ⟨by decide, y_w 1735 (by decide +kernel)⟩, Or.inr (Or.inl ⟨by decide, y_w 1736 (by decide +kernel), y_w 1737 (by decide +kernel)⟩)⟩
theorem y_cl_287 : y_clok (12, 364, 1, 222, 1) := ⟨y_cd_222, by decide +kernel, Or.inl ⟨by decide, y_w 1739 (by decide +kernel)⟩, Or.inr (Or.inl ⟨by decide, y_w 1741 (by decide +kernel), List.mem_append_left _ (List.mem_of_getElem? (i := 85) (by decide +kernel))⟩)⟩
theorem y_cl_288 : y_clok (12, 359, 1, 221, 1) := ⟨y_cd_221, by decide +kernel, Or.inl ⟨by decide, y_w 1743 (by decide +kernel)⟩, Or.inr (Or.inl ⟨by decide, y_w 1745 (by decide +kernel), List.mem_append_left _ (List.mem_of_getElem? (i := 86) (by decide +kernel))⟩)⟩
theorem y_cl_289 : y_clok (12, 367, 1, 223, 1) := ⟨y_cd_223, by decide +kernel, Or.inl ⟨by decide, y_w 1747 (by decide +kernel)⟩, Or.inr (Or.inl ⟨by decide, y_w 1749 (by decide +kernel), List.mem_append_left _ (List.mem_of_getElem? (i := 87) (by decide +kernel))⟩)⟩
theorem y_cl_290 : y_clok (12, 370, 1, 224, 0) := ⟨y_cd_224, by decide +kernel, Or.inl ⟨by decide, y_w 1752 (by decide +kernel)⟩, Or.inr (Or.inl ⟨by decide, y_w 1754 (by decide +kernel), List.mem_append_left _ (List.mem_of_getElem? (i := 88) (by decide +kernel))⟩)⟩
theorem y_cl_291 : y_clok (13, 185, 1, 226, 4) := ⟨y_cd_226, by decide +kernel, Or.inl ⟨by decide, y_w 1756 (by decide +kernel)⟩, Or.inr (Or.inl ⟨by decide, y_w 1757 (by decide +kernel), y_w 1758 (by decide +kernel)⟩)⟩
theorem y_cl_292 : y_clok (13, 188, 1, 227, 2) := ⟨y_cd_227, by decide +kernel, Or.inl ⟨by decide, y_w 1760 (by decide +kernel)⟩, Or.inr (Or.inl ⟨by decide, y_w 1761 (by decide +kernel), y_w 1762 (by decide +kernel)⟩)⟩
theorem y_cl_293 : y_clok (13, 191, 1, 228, 2) := ⟨y_cd_228, by decide +kernel, Or.inl ⟨by decide, y_w 1764 (by decide +kernel)⟩, Or.inr (Or.inl ⟨by decide, y_w 1765 (by decide +kernel), y_w 1766 (by decide +kernel)⟩)⟩
theorem y_cl_294 : y_clok (13, 195, 1, 229, 0) := ⟨y_cd_229, by decide +kernel, Or.inl ⟨by decide, y_w 1768 (by decide +kernel)⟩, Or.inr (Or.inl ⟨by decide, y_w 1769 (by decide +kernel), y_w 1770 (by decide +kernel)⟩)⟩
theorem y_cl_295 : y_clok (13, 201, 1, 230, 2) := ⟨y_cd_230, by decide +kernel, Or.inl ⟨by decide, y_w 1772 (by decide +kernel)⟩, Or.inr (Or.inl ⟨by decide, y_w 1773 (by decide +kernel), y_w 1774 (by decide +kernel)⟩)⟩
theorem y_cl_296 : y_clok (13, 204, 1, 231, 3) := ⟨y_cd_231, by decide +kernel, Or.inl ⟨by decide, y_w 1776 (by decide +kernel)⟩, Or.inr (Or.inl ⟨by decide, y_w 1777 (by decide +kernel), y_w 1778 (by decide +kernel)⟩)⟩
theorem y_cl_297 : y_clok (13, 207, 1, 232, 1) := ⟨y_cd_232, by decide +kernel, Or.inl ⟨by decide, y_w 1780 (by decide +kernel)⟩, Or.inr (Or.inl ⟨by decide, y_w 1781 (by decide +kernel), y_w 1782 (by decide +kernel)⟩)⟩
theorem y_cl_298 : y_clok (13, 210, 1, 236, 2) := ⟨y_cd_236, by decide +kernel, Or.inl ⟨by decide, y_w 1784 (by decide +kernel)⟩, Or.inr (Or.inl ⟨by decide, y_w 1785 (by decide +kernel), y_w 1786 (by decide +kernel)⟩)⟩
theorem y_cl_299 : y_clok (12, 382, 1, 235, 0) := ⟨y_cd_235, by decide +kernel, Or.inl ⟨by decide, y_w 1788 (by decide +kernel)⟩, Or.inr (Or.inl ⟨by decide, y_w 1790 (by decide +kernel), List.mem_append_left _ (List.mem_of_getElem? (i := 89) (by decide +kernel))⟩)⟩
theorem y_cl_300 : y_clok (12, 373, 1, 234, 2) := ⟨y_cd_234, by decide +kernel, Or.inl ⟨by decide, y_w 1792 (by decide +kernel)⟩, Or.inr (Or.inl ⟨by decide, y_w 1794 (by decide +kernel), List.mem_append_left _ (List.mem_of_getElem? (i := 90) (by decide +kernel))⟩)⟩
theorem y_cl_301 : y_clok (12, 376, 1, 233, 2) := ⟨y_cd_233, by decide +kernel, Or.inl ⟨by decide, y_w 1796 (by decide +kernel)⟩, Or.inr (Or.inl ⟨by decide, y_w 1798 (by decide +kernel), List.mem_append_left _ (List.mem_of_getElem? (i := 91) (by decide +kernel))⟩)⟩
theorem y_cl_302 : y_clok (13, 213, 1, 237, 1) := ⟨y_cd_237, by decide +kernel, Or.inl ⟨by decide, y_w 1800 (by decide +kernel)⟩, Or.inr (Or.inl ⟨by decide, y_w 1801 (by decide +kernel), y_w 1802 (by decide +kernel)⟩)⟩
theorem y_cl_303 : y_clok (13, 216, 1, 238, 1) := ⟨y_cd_238, by decide +kernel, Or.inl ⟨by decide, y_w 1804 (by decide +kernel)⟩, Or.inr (Or.inl ⟨by decide, y_w 1805 (by decide +kernel), y_w 1806 (by decide +kernel)⟩)⟩
theorem y_cl_304 : y_clok (13, 220, 1, 239, 1) := ⟨y_cd_239, by decide +kernel, Or.inl ⟨by decide, y_w 1809 (by decide +kernel)⟩, Or.inr (Or.inl ⟨by decide, y_w 1810 (by decide +kernel), y_w 1811 (by decide +kernel)⟩)⟩
set_option maxRecDepth 100000 in
theorem y_cl : ∀ e ∈ t_cl, y_clok e := List.forall_mem_cons.mpr ⟨y_cl_0, List.forall_mem_cons.mpr ⟨y_cl_1, List.forall_mem_cons.mpr ⟨y_cl_2, List.forall_mem_cons.mpr ⟨y_cl_3, List.forall_mem_cons.mpr ⟨y_cl_4, List.forall_mem_cons.mpr ⟨y_cl_5, List.forall_mem_cons.mpr ⟨y_cl_6, List.forall_mem_cons.mpr ⟨y_cl_7, List.forall_mem_cons.mpr ⟨y_cl_8, List.forall_mem_cons.mpr ⟨y_cl_9, List.forall_mem_cons.mpr ⟨y_cl_10, List.forall_mem_cons.mpr ⟨y_cl_11, List.forall_mem_cons.mpr ⟨y_cl_12, List.forall_mem_cons.mpr ⟨y_cl_13, List.forall_mem_cons.mpr ⟨y_cl_14, List.forall_mem_cons.mpr ⟨y_cl_15, List.forall_mem_cons.mpr ⟨y_cl_16, List.forall_mem_cons.mpr ⟨y_cl_17, List.forall_mem_cons.mpr ⟨y_cl_18, List.forall_mem_cons.mpr ⟨y_cl_19, List.forall_mem_cons.mpr ⟨y_cl_20, List.forall_mem_cons.mpr ⟨y_cl_21, List.forall_mem_cons.mpr ⟨y_cl_22, List.forall_mem_cons.mpr ⟨y_cl_23, List.forall_mem_cons.mpr ⟨y_cl_24, List.forall_mem_cons.mpr ⟨y_cl_25, List.forall_mem_cons.mpr ⟨y_cl_26, List.forall_mem_cons.mpr ⟨y_cl_27, List.forall_mem_cons.mpr ⟨y_cl_28, List.forall_mem_cons.mpr ⟨y_cl_29, List.forall_mem_cons.mpr ⟨y_cl_30, List.forall_mem_cons.mpr ⟨y_cl_31, List.forall_mem_cons.mpr ⟨y_cl_32, List.forall_mem_cons.mpr ⟨y_cl_33, List.forall_mem_cons.mpr ⟨y_cl_34, List.forall_mem_cons.mpr ⟨y_cl_35, List.forall_mem_cons.mpr ⟨y_cl_36, List.forall_mem_cons.mpr ⟨y_cl_37, List.forall_mem_cons.mpr ⟨y_cl_38, List.forall_mem_cons.mpr ⟨y_cl_39, List.forall_mem_cons.mpr ⟨y_cl_40, List.forall_mem_cons.mpr ⟨y_cl_41, List.forall_mem_cons.mpr ⟨y_cl_42, List.forall_mem_cons.mpr ⟨y_cl_43, List.forall_mem_cons.mpr ⟨y_cl_44, List.forall_mem_cons.mpr ⟨y_cl_45, List.forall_mem_cons.mpr ⟨y_cl_46, List.forall_mem_cons.mpr ⟨y_cl_47, List.forall_mem_cons.mpr ⟨y_cl_48, List.forall_mem_cons.mpr ⟨y_cl_49, List.forall_mem_cons.mpr ⟨y_cl_50, List.forall_mem_cons.mpr ⟨y_cl_51, List.forall_mem_cons.mpr ⟨y_cl_52, List.forall_mem_cons.mpr ⟨y_cl_53, List.forall_mem_cons.mpr ⟨y_cl_54, List.forall_mem_cons.mpr ⟨y_cl_55, List.forall_mem_cons.mpr ⟨y_cl_56, List.forall_mem_cons.mpr ⟨y_cl_57, List.forall_mem_cons.mpr ⟨y_cl_58, List.forall_mem_cons.mpr ⟨y_cl_59, List.forall_mem_cons.mpr ⟨y_cl_60, List.forall_mem_cons.mpr ⟨y_cl_61, List.forall_mem_cons.mpr ⟨y_cl_62, List.forall_mem_cons.mpr ⟨y_cl_63, List.forall_mem_cons.mpr ⟨y_cl_64, List.forall_mem_cons.mpr ⟨y_cl_65, List.forall_mem_cons.mpr ⟨y_cl_66, List.forall_mem_cons.mpr ⟨y_cl_67, List.forall_mem_cons.mpr ⟨y_cl_68, List.forall_mem_cons.mpr ⟨y_cl_69, List.forall_mem_cons.mpr ⟨y_cl_70, List.forall_mem_cons.mpr ⟨y_cl_71, List.forall_mem_cons.mpr ⟨y_cl_72, List.forall_mem_cons.mpr ⟨y_cl_73, List.forall_mem_cons.mpr ⟨y_cl_74, List.forall_mem_cons.mpr ⟨y_cl_75, List.forall_mem_cons.mpr ⟨y_cl_76, List.forall_mem_cons.mpr ⟨y_cl_77, List.forall_mem_cons.mpr ⟨y_cl_78, List.forall_mem_cons.mpr ⟨y_cl_79, List.forall_mem_cons.mpr ⟨y_cl_80, List.forall_mem_cons.mpr ⟨y_cl_81, List.forall_mem_cons.mpr ⟨y_cl_82, List.forall_mem_cons.mpr ⟨y_cl_83, List.forall_mem_cons.mpr ⟨y_cl_84, List.forall_mem_cons.mpr ⟨y_cl_85, List.forall_mem_cons.mpr ⟨y_cl_86, List.forall_mem_cons.mpr ⟨y_cl_87, List.forall_mem_cons.mpr ⟨y_cl_88, List.forall_mem_cons.mpr ⟨y_cl_89, List.forall_mem_cons.mpr ⟨y_cl_90, List.forall_mem_cons.mpr ⟨y_cl_91, List.forall_mem_cons.mpr ⟨y_cl_92, List.forall_mem_cons.mpr ⟨y_cl_93, List.forall_mem_cons.mpr ⟨y_cl_94, List.forall_mem_cons.mpr ⟨y_cl_95, List.forall_mem_cons.mpr ⟨y_cl_96, List.forall_mem_cons.mpr ⟨y_cl_97, List.forall_mem_cons.mpr ⟨y_cl_98, List.forall_mem_cons.mpr ⟨y_cl_99, List.forall_mem_cons.mpr ⟨y_cl_100, List.forall_mem_cons.mpr ⟨y_cl_101, List.forall_mem_cons.mpr ⟨y_cl_102, List.forall_mem_cons.mpr ⟨y_cl_103, List.forall_mem_cons.mpr ⟨y_cl_104, List.forall_mem_cons.mpr ⟨y_cl_105, List.forall_mem_cons.mpr ⟨y_cl_106, List.forall_mem_cons.mpr ⟨y_cl_107, List.forall_mem_cons.mpr ⟨y_cl_108, List.forall_mem_cons.mpr ⟨y_cl_109, List.forall_mem_cons.mpr ⟨y_cl_110, List.forall_mem_cons.mpr ⟨y_cl_111, List.forall_mem_cons.mpr ⟨y_cl_112, List.forall_mem_cons.mpr ⟨y_cl_113, List.forall_mem_cons.mpr ⟨y_cl_114, List.forall_mem_cons.mpr ⟨y_cl_115, List.forall_mem_cons.mpr ⟨y_cl_116, List.forall_mem_cons.mpr ⟨y_cl_117, List.forall_mem_cons.mpr ⟨y_cl_118, List.forall_mem_cons.mpr ⟨y_cl_119, List.forall_mem_cons.mpr ⟨y_cl_120, List.forall_mem_cons.mpr ⟨y_cl_121, List.forall_mem_cons.mpr ⟨y_cl_122, List.forall_mem_cons.mpr ⟨y_cl_123, List.forall_mem_cons.mpr ⟨y_cl_124, List.forall_mem_cons.mpr ⟨y_cl_125, List.forall_mem_cons.mpr ⟨y_cl_126, List.forall_mem_cons.mpr ⟨y_cl_127, List.forall_mem_cons.mpr ⟨y_cl_128, List.forall_mem_cons.mpr ⟨y_cl_129, List.forall_mem_cons.mpr ⟨y_cl_130, List.forall_mem_cons.mpr ⟨y_cl_131, List.forall_mem_cons.mpr ⟨y_cl_132, List.forall_mem_cons.mpr ⟨y_cl_133, List.forall_mem_cons.mpr ⟨y_cl_134, List.forall_mem_cons.mpr ⟨y_cl_135, List.forall_mem_cons.mpr ⟨y_cl_136, List.forall_mem_cons.mpr ⟨y_cl_137, List.forall_mem_cons.mpr ⟨y_cl_138, List.forall_mem_cons.mpr ⟨y_cl_139, List.forall_mem_cons.mpr ⟨y_cl_140, List.forall_mem_cons.mpr ⟨y_cl_141, List.forall_mem_cons.mpr ⟨y_cl_142, List.forall_mem_cons.mpr ⟨y_cl_143, List.forall_mem_cons.mpr ⟨y_cl_144, List.forall_mem_cons.mpr ⟨y_cl_145, List.forall_mem_cons.mpr ⟨y_cl_146, List.forall_mem_cons.mpr ⟨y_cl_147, List.forall_mem_cons.mpr ⟨y_cl_148, List.forall_mem_cons.mpr ⟨y_cl_149, List.forall_mem_cons.mpr ⟨y_cl_150, List.forall_mem_cons.mpr ⟨y_cl_151, List.forall_mem_cons.mpr ⟨y_cl_152, List.forall_mem_cons.mpr ⟨y_cl_153, List.forall_mem_cons.mpr ⟨y_cl_154, List.forall_mem_cons.mpr ⟨y_cl_155, List.forall_mem_cons.mpr ⟨y_cl_156, List.forall_mem_cons.mpr ⟨y_cl_157, List.forall_mem_cons.mpr ⟨y_cl_158, List.forall_mem_cons.mpr ⟨y_cl_159, List.forall_mem_cons.mpr ⟨y_cl_160, List.forall_mem_cons.mpr ⟨y_cl_161, List.forall_mem_cons.mpr ⟨y_cl_162, List.forall_mem_cons.mpr ⟨y_cl_163, List.forall_mem_cons.mpr ⟨y_cl_164, List.forall_mem_cons.mpr ⟨y_cl_165, List.forall_mem_cons.mpr ⟨y_cl_166, List.forall_mem_cons.mpr ⟨y_cl_167, List.forall_mem_cons.mpr ⟨y_cl_168, List.forall_mem_cons.mpr ⟨y_cl_169, List.forall_mem_cons.mpr ⟨y_cl_170, List.forall_mem_cons.mpr ⟨y_cl_171, List.forall_mem_cons.mpr ⟨y_cl_172, List.forall_mem_cons.mpr ⟨y_cl_173, List.forall_mem_cons.mpr ⟨y_cl_174, List.forall_mem_cons.mpr ⟨y_cl_175, List.forall_mem_cons.mpr ⟨y_cl_176, List.forall_mem_cons.mpr ⟨y_cl_177, List.forall_mem_cons.mpr ⟨y_cl_178, List.forall_mem_cons.mpr ⟨y_cl_179, List.forall_mem_cons.mpr ⟨y_cl_180, List.forall_mem_cons.mpr ⟨y_cl_181, List.forall_mem_cons.mpr ⟨y_cl_182, List.forall_mem_cons.mpr ⟨y_cl_183, List.forall_mem_cons.mpr ⟨y_cl_184, List.forall_mem_cons.mpr ⟨y_cl_185, List.forall_mem_cons.mpr ⟨y_cl_186, List.forall_mem_cons.mpr ⟨y_cl_187, List.forall_mem_cons.mpr ⟨y_cl_188, List.forall_mem_cons.mpr ⟨y_cl_189, List.forall_mem_cons.mpr ⟨y_cl_190, List.forall_mem_cons.mpr ⟨y_cl_191, List.forall_mem_cons.mpr ⟨y_cl_192, List.forall_mem_cons.mpr ⟨y_cl_193, List.forall_mem_cons.mpr ⟨y_cl_194, List.forall_mem_cons.mpr ⟨y_cl_195, List.forall_mem_cons.mpr ⟨y_cl_196, List.forall_mem_cons.mpr ⟨y_cl_197, List.forall_mem_cons.mpr ⟨y_cl_198, List.forall_mem_cons.mpr ⟨y_cl_199, List.forall_mem_cons.mpr ⟨y_cl_200, List.forall_mem_cons.mpr ⟨y_cl_201, List.forall_mem_cons.mpr ⟨y_cl_202, List.forall_mem_cons.mpr ⟨y_cl_203, List.forall_mem_cons.mpr ⟨y_cl_204, List.forall_mem_cons.mpr ⟨y_cl_205, List.forall_mem_cons.mpr ⟨y_cl_206, List.forall_mem_cons.mpr ⟨y_cl_207, List.forall_mem_cons.mpr ⟨y_cl_208, List.forall_mem_cons.mpr ⟨y_cl_209, List.forall_mem_cons.mpr ⟨y_cl_210, List.forall_mem_cons.mpr ⟨y_cl_211, List.forall_mem_cons.mpr ⟨y_cl_212, List.forall_mem_cons.mpr ⟨y_cl_213, List.forall_mem_cons.mpr ⟨y_cl_214, List.forall_mem_cons.mpr ⟨y_cl_215, List.forall_mem_cons.mpr ⟨y_cl_216, List.forall_mem_cons.mpr ⟨y_cl_217, List.forall_mem_cons.mpr ⟨y_cl_218, List.forall_mem_cons.mpr ⟨y_cl_219, List.forall_mem_cons.mpr ⟨y_cl_220, List.forall_mem_cons.mpr ⟨y_cl_221, List.forall_mem_cons.mpr ⟨y_cl_222, List.forall_mem_cons.mpr ⟨y_cl_223, List.forall_mem_cons.mpr ⟨y_cl_224, List.forall_mem_cons.mpr ⟨y_cl_225, List.forall_mem_cons.mpr ⟨y_cl_226, List.forall_mem_cons.mpr ⟨y_cl_227, List.forall_mem_cons.mpr ⟨y_cl_228, List.forall_mem_cons.mpr ⟨y_cl_229, List.forall_mem_cons.mpr ⟨y_cl_230, List.forall_mem_cons.mpr ⟨y_cl_231, List.forall_mem_cons.mpr ⟨y_cl_232, List.forall_mem_cons.mpr ⟨y_cl_233, List.forall_mem_cons.mpr ⟨y_cl_234, List.forall_mem_cons.mpr ⟨y_cl_235, List.forall_mem_cons.mpr ⟨y_cl_236, List.forall_mem_cons.mpr ⟨y_cl_237, List.forall_mem_cons.mpr ⟨y_cl_238, List.forall_mem_cons.mpr ⟨y_cl_239, List.forall_mem_cons.mpr ⟨y_cl_240, List.forall_mem_cons.mpr ⟨y_cl_241, List.forall_mem_cons.mpr ⟨y_cl_242, List.forall_mem_cons.mpr ⟨y_cl_243, List.forall_mem_cons.mpr ⟨y_cl_244, List.forall_mem_cons.mpr ⟨y_cl_245, List.forall_mem_cons.mpr ⟨y_cl_246, List.forall_mem_cons.mpr ⟨y_cl_247, List.forall_mem_cons.mpr ⟨y_cl_248, List.forall_mem_cons.mpr ⟨y_cl_249, List.forall_mem_cons.mpr ⟨y_cl_250, List.forall_mem_cons.mpr ⟨y_cl_251, List.forall_mem_cons.mpr ⟨y_cl_252, List.forall_mem_cons.mpr ⟨y_cl_253, List.forall_mem_cons.mpr ⟨y_cl_254, List.forall_mem_cons.mpr ⟨y_cl_255, List.forall_mem_cons.mpr ⟨y_cl_256, List.forall_mem_cons.mpr ⟨y_cl_257, List.forall_mem_cons.mpr ⟨y_cl_258, List.forall_mem_cons.mpr ⟨y_cl_259, List.forall_mem_cons.mpr ⟨y_cl_260, List.forall_mem_cons.mpr ⟨y_cl_261, List.forall_mem_cons.mpr ⟨y_cl_262, List.forall_mem_cons.mpr ⟨y_cl_263, List.forall_mem_cons.mpr ⟨y_cl_264, List.forall_mem_cons.mpr ⟨y_cl_265, List.forall_mem_cons.mpr ⟨y_cl_266, List.forall_mem_cons.mpr ⟨y_cl_267, List.forall_mem_cons.mpr ⟨y_cl_268, List.forall_mem_cons.mpr ⟨y_cl_269, List.forall_mem_cons.mpr ⟨y_cl_270, List.forall_mem_cons.mpr ⟨y_cl_271, List.forall_mem_cons.mpr ⟨y_cl_272, List.forall_mem_cons.mpr ⟨y_cl_273, List.forall_mem_cons.mpr ⟨y_cl_274, List.forall_mem_cons.mpr ⟨y_cl_275, List.forall_mem_cons.mpr ⟨y_cl_276, List.forall_mem_cons.mpr ⟨y_cl_277, List.forall_mem_cons.mpr ⟨y_cl_278, List.forall_mem_cons.mpr ⟨y_cl_279, List.forall_mem_cons.mpr ⟨y_cl_280, List.forall_mem_cons.mpr ⟨y_cl_281, List.forall_mem_cons.mpr ⟨y_cl_282, List.forall_mem_cons.mpr ⟨y_cl_283, List.forall_mem_cons.mpr ⟨y_cl_284, List.forall_mem_cons.mpr ⟨y_cl_285, List.forall_mem_cons.mpr ⟨y_cl_286, List.forall_mem_cons.mpr ⟨y_cl_287, List.forall_mem_cons.mpr ⟨y_cl_288, List.forall_mem_cons.mpr ⟨y_cl_289, List.forall_mem_cons.mpr ⟨y_cl_290, List.forall_mem_cons.mpr ⟨y_cl_291, List.forall_mem_cons.mpr ⟨y_cl_292, List.forall_mem_cons.mpr ⟨y_cl_293, List.forall_mem_cons.mpr ⟨y_cl_294, List.forall_mem_cons.mpr ⟨y_cl_295, List.forall_mem_cons.mpr ⟨y_cl_296, List.forall_mem_cons.mpr ⟨y_cl_297, List.forall_mem_cons.mpr ⟨y_cl_298, List.forall_mem_cons.mpr ⟨y_cl_299, List.forall_mem_cons.mpr ⟨y_cl_300, List.forall_mem_cons.mpr ⟨y_cl_301, List.forall_mem_cons.mpr ⟨y_cl_302, List.forall_mem_cons.mpr ⟨y_cl_303, List.forall_mem_cons.mpr ⟨y_cl_304, fun _ h => absurd h List.not_mem_nil⟩⟩⟩⟩⟩⟩⟩⟩⟩⟩⟩⟩⟩⟩⟩⟩⟩⟩⟩⟩⟩⟩⟩⟩⟩⟩⟩⟩⟩⟩⟩⟩⟩⟩⟩⟩⟩⟩⟩⟩⟩⟩⟩⟩⟩⟩⟩⟩⟩⟩⟩⟩⟩⟩⟩⟩⟩⟩⟩⟩⟩⟩⟩⟩⟩⟩⟩⟩⟩⟩⟩⟩⟩⟩⟩⟩⟩⟩⟩⟩⟩⟩⟩⟩⟩⟩⟩⟩⟩⟩⟩⟩⟩⟩⟩⟩⟩⟩⟩⟩⟩⟩⟩⟩⟩⟩⟩⟩⟩⟩⟩⟩⟩⟩⟩⟩⟩⟩⟩⟩⟩⟩⟩⟩⟩⟩⟩⟩⟩⟩⟩⟩⟩⟩⟩⟩⟩⟩⟩⟩⟩⟩⟩⟩⟩⟩⟩⟩⟩⟩⟩⟩⟩⟩⟩⟩⟩⟩⟩⟩⟩⟩⟩⟩⟩⟩⟩⟩⟩⟩⟩⟩⟩⟩⟩⟩⟩⟩⟩⟩⟩⟩⟩⟩⟩⟩⟩⟩⟩⟩⟩⟩⟩⟩⟩⟩⟩⟩⟩⟩⟩⟩⟩⟩⟩⟩⟩⟩⟩⟩⟩⟩⟩⟩⟩⟩⟩⟩⟩⟩⟩⟩⟩⟩⟩⟩⟩⟩⟩⟩⟩⟩⟩⟩⟩⟩⟩⟩⟩⟩⟩⟩⟩⟩⟩⟩⟩⟩⟩⟩⟩⟩⟩⟩⟩⟩⟩⟩⟩⟩⟩⟩⟩⟩⟩⟩⟩⟩⟩⟩⟩⟩⟩⟩⟩⟩⟩⟩⟩⟩⟩⟩⟩⟩⟩⟩⟩⟩⟩⟩⟩⟩⟩⟩⟩⟩⟩⟩⟩⟩⟩⟩⟩⟩⟩
theorem y_cls : ∀ m : Nat, m < 273 → (y_nm m).cls = y_own (t_own m) ∧ plainName (y_nm m).cls = true ∧ ((y_nm m).cls ≠ "java/lang/invoke/MethodHandle" ∧ (y_nm m).cls ≠ "java/lang/invoke/VarHandle") ∧ t_maxl m ≤ 40 := by decide +kernel
def y_rok (m : Nat) : Bool := match t_ret m, y_rt m with
  | 0, none => true
  | 1, some .int => true
  | 2, some .boolean => true
  | 3, some .long => true
  | 4, some t => t.isReference
  | _, _ => false
theorem y_ret_ok : ∀ m : Nat, m < 273 → y_rok m = true := by decide +kernel
