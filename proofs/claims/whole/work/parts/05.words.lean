/-! which words of the tables say so, by program -/
theorem y_w (i : Nat) {w : Cond} (h : tables_1[i]? = some w) : w ∈ lw_tbl := List.mem_append_right _ (List.mem_of_getElem? h)
def y_own (o : Nat) : String := (["NumberSpeech$Book", "NumberSpeech$Causes", "NumberSpeech$Chart", "NumberSpeech$History", "NumberSpeech$Memo", "NumberSpeech$Ranking", "NumberSpeech$Rule", "NumberSpeech$Tape", "NumberSpeech$TextReader", "NumberSpeech$Voice", "NumberSpeech$WordCount", "NumberSpeech", "NumberSpeechModel", "NumberSpeechLaw", "java/util/Arrays"] : List String).getD o ""
theorem inX0 : ∀ w ∈ wsX00, w ∈ lw_tbl := by
  intro w hw
  obtain ⟨k, hk, rfl⟩ := List.mem_map.mp hw
  have key : ∀ k, k < 3 → tables_1[([62, 64, 66] : List Nat).getD k 0]? = some (u_lay RX0 TX0 k) := by decide +kernel
  exact y_w _ (key k (List.mem_range.mp hk))
theorem inX1 : ∀ w ∈ wsX10, w ∈ lw_tbl := by
  intro w hw
  obtain ⟨k, hk, rfl⟩ := List.mem_map.mp hw
  have key : ∀ k, k < 5 → tables_1[([207, 209, 211, 213, 215] : List Nat).getD k 0]? = some (u_lay RX1 TX1 k) := by decide +kernel
  exact y_w _ (key k (List.mem_range.mp hk))
theorem inX2 : ∀ w ∈ wsX20, w ∈ lw_tbl := by
  intro w hw
  obtain ⟨k, hk, rfl⟩ := List.mem_map.mp hw
  have key : ∀ k, k < 9 → tables_1[([338, 340, 342, 344, 346, 348, 350, 352, 354] : List Nat).getD k 0]? = some (u_lay RX2 TX2 k) := by decide +kernel
  exact y_w _ (key k (List.mem_range.mp hk))
theorem inX3 : ∀ w ∈ wsX30, w ∈ lw_tbl := by
  intro w hw
  obtain ⟨k, hk, rfl⟩ := List.mem_map.mp hw
  have key : ∀ k, k < 3 → tables_1[([83, 85, 87] : List Nat).getD k 0]? = some (u_lay RX3 TX3 k) := by decide +kernel
  exact y_w _ (key k (List.mem_range.mp hk))
theorem inX4 : ∀ w ∈ wsX40, w ∈ lw_tbl := by
  intro w hw
  obtain ⟨k, hk, rfl⟩ := List.mem_map.mp hw
  have key : ∀ k, k < 5 → tables_1[([184, 186, 188, 190, 192] : List Nat).getD k 0]? = some (u_lay RX4 TX4 k) := by decide +kernel
  exact y_w _ (key k (List.mem_range.mp hk))
theorem inX5 : ∀ w ∈ wsX50, w ∈ lw_tbl := by
  intro w hw
  obtain ⟨k, hk, rfl⟩ := List.mem_map.mp hw
  have key : ∀ k, k < 11 → tables_1[([273, 275, 277, 279, 281, 283, 285, 287, 289, 291, 293] : List Nat).getD k 0]? = some (u_lay RX5 TX5 k) := by decide +kernel
  exact y_w _ (key k (List.mem_range.mp hk))
theorem inX6 : ∀ w ∈ wsX60, w ∈ lw_tbl := by
  intro w hw
  obtain ⟨k, hk, rfl⟩ := List.mem_map.mp hw
  have key : ∀ k, k < 7 → tables_1[([832, 834, 836, 838, 840, 842, 844] : List Nat).getD k 0]? = some (u_lay RX6 TX6 k) := by decide +kernel
  exact y_w _ (key k (List.mem_range.mp hk))
theorem inX7 : ∀ w ∈ wsX70, w ∈ lw_tbl := by
  intro w hw
  obtain ⟨k, hk, rfl⟩ := List.mem_map.mp hw
  have key : ∀ k, k < 2 → tables_1[([44, 46] : List Nat).getD k 0]? = some (u_lay RX7 TX7 k) := by decide +kernel
  exact y_w _ (key k (List.mem_range.mp hk))
theorem inX8 : ∀ w ∈ wsX80, w ∈ lw_tbl := by
  intro w hw
  obtain ⟨k, hk, rfl⟩ := List.mem_map.mp hw
  have key : ∀ k, k < 14 → tables_1[([116, 118, 120, 122, 124, 126, 128, 130, 132, 134, 136, 138, 140, 142] : List Nat).getD k 0]? = some (u_lay RX8 TX8 k) := by decide +kernel
  exact y_w _ (key k (List.mem_range.mp hk))
theorem inX9 : ∀ w ∈ wsX90, w ∈ lw_tbl := by
  intro w hw
  obtain ⟨k, hk, rfl⟩ := List.mem_map.mp hw
  have key : ∀ k, k < 11 → tables_1[([234, 236, 238, 240, 242, 244, 246, 248, 250, 252, 254] : List Nat).getD k 0]? = some (u_lay RX9 TX9 k) := by decide +kernel
  exact y_w _ (key k (List.mem_range.mp hk))
theorem inX10 : ∀ w ∈ wsX100, w ∈ lw_tbl := by
  intro w hw
  obtain ⟨k, hk, rfl⟩ := List.mem_map.mp hw
  have key : ∀ k, k < 5 → tables_1[([311, 313, 315, 317, 319] : List Nat).getD k 0]? = some (u_lay RX10 TX10 k) := by decide +kernel
  exact y_w _ (key k (List.mem_range.mp hk))
theorem inX11 : ∀ w ∈ wsX110, w ∈ lw_tbl := by
  intro w hw
  obtain ⟨k, hk, rfl⟩ := List.mem_map.mp hw
  have key : ∀ k, k < 13 → tables_1[([370, 372, 374, 376, 378, 380, 382, 384, 386, 388, 390, 392, 394] : List Nat).getD k 0]? = some (u_lay RX11 TX11 k) := by decide +kernel
  exact y_w _ (key k (List.mem_range.mp hk))
theorem inX12 : ∀ w ∈ wsX120, w ∈ lw_tbl := by
  intro w hw
  obtain ⟨k, hk, rfl⟩ := List.mem_map.mp hw
  have key : ∀ k, k < 50 → tables_1[([1355, 1357, 1359, 1361, 1363, 1365, 1367, 1369, 1371, 1373, 1375, 1377, 1379, 1381, 1383, 1385, 1387, 1389, 1391, 1393, 1395, 1397, 1399, 1401, 1403, 1405, 1407, 1409, 1411, 1413, 1415, 1417, 1419, 1421, 1423, 1425, 1427, 1429, 1431, 1433, 1435, 1437, 1439, 1441, 1443, 1445, 1447, 1449, 1451, 1453] : List Nat).getD k 0]? = some (u_lay RX12 TX12 k) := by decide +kernel
  exact y_w _ (key k (List.mem_range.mp hk))
def y_flok (e : Nat × Nat × Nat × Nat) : Prop := ∃ r : vw_C, vwCl[e.2.2.1]? = some r ∧ e.2.2.2 < r.2.2 ∧ (Cond.fieldLink (y_own e.1) e.2.1 (r.2.1 e.2.2.2).1 (r.2.1 e.2.2.2).2.1 (r.2.1 e.2.2.2).2.2.1 ∈ lw_tbl ∨ ∃ host, Cond.fieldLinkNest (y_own e.1) e.2.1 (r.2.1 e.2.2.2).1 (r.2.1 e.2.2.2).2.1 (r.2.1 e.2.2.2).2.2.1 host ∈ lw_tbl)
theorem y_fl_0 : y_flok (7, 9, 7, 0) := ⟨(RX7, TX7, 2), rfl, by decide, Or.inl (y_w 40 (by decide +kernel))⟩
theorem y_fl_1 : y_flok (11, 97, 7, 0) := ⟨(RX7, TX7, 2), rfl, by decide, Or.inl (y_w 41 (by decide +kernel))⟩
theorem y_fl_2 : y_flok (7, 15, 7, 1) := ⟨(RX7, TX7, 2), rfl, by decide, Or.inl (y_w 42 (by decide +kernel))⟩
theorem y_fl_3 : y_flok (11, 82, 7, 1) := ⟨(RX7, TX7, 2), rfl, by decide, Or.inl (y_w 43 (by decide +kernel))⟩
theorem y_fl_4 : y_flok (0, 11, 0, 0) := ⟨(RX0, TX0, 3), rfl, by decide, Or.inl (y_w 58 (by decide +kernel))⟩
theorem y_fl_5 : y_flok (0, 17, 0, 1) := ⟨(RX0, TX0, 3), rfl, by decide, Or.inl (y_w 59 (by decide +kernel))⟩
theorem y_fl_6 : y_flok (0, 21, 0, 2) := ⟨(RX0, TX0, 3), rfl, by decide, Or.inl (y_w 60 (by decide +kernel))⟩
theorem y_fl_7 : y_flok (11, 137, 0, 2) := ⟨(RX0, TX0, 3), rfl, by decide, Or.inl (y_w 61 (by decide +kernel))⟩
theorem y_fl_8 : y_flok (3, 11, 3, 0) := ⟨(RX3, TX3, 3), rfl, by decide, Or.inl (y_w 79 (by decide +kernel))⟩
theorem y_fl_9 : y_flok (3, 17, 3, 1) := ⟨(RX3, TX3, 3), rfl, by decide, Or.inl (y_w 80 (by decide +kernel))⟩
theorem y_fl_10 : y_flok (3, 21, 3, 2) := ⟨(RX3, TX3, 3), rfl, by decide, Or.inl (y_w 81 (by decide +kernel))⟩
theorem y_fl_11 : y_flok (11, 162, 3, 2) := ⟨(RX3, TX3, 3), rfl, by decide, Or.inl (y_w 82 (by decide +kernel))⟩
theorem y_fl_12 : y_flok (8, 11, 8, 0) := ⟨(RX8, TX8, 14), rfl, by decide, Or.inl (y_w 97 (by decide +kernel))⟩
theorem y_fl_13 : y_flok (11, 122, 8, 0) := ⟨(RX8, TX8, 14), rfl, by decide, Or.inl (y_w 98 (by decide +kernel))⟩
theorem y_fl_14 : y_flok (8, 17, 8, 1) := ⟨(RX8, TX8, 14), rfl, by decide, Or.inl (y_w 99 (by decide +kernel))⟩
theorem y_fl_15 : y_flok (11, 119, 8, 1) := ⟨(RX8, TX8, 14), rfl, by decide, Or.inl (y_w 100 (by decide +kernel))⟩
theorem y_fl_16 : y_flok (8, 21, 8, 2) := ⟨(RX8, TX8, 14), rfl, by decide, Or.inl (y_w 101 (by decide +kernel))⟩
theorem y_fl_17 : y_flok (11, 113, 8, 2) := ⟨(RX8, TX8, 14), rfl, by decide, Or.inl (y_w 102 (by decide +kernel))⟩
theorem y_fl_18 : y_flok (8, 24, 8, 3) := ⟨(RX8, TX8, 14), rfl, by decide, Or.inl (y_w 103 (by decide +kernel))⟩
theorem y_fl_19 : y_flok (11, 106, 8, 3) := ⟨(RX8, TX8, 14), rfl, by decide, Or.inl (y_w 104 (by decide +kernel))⟩
theorem y_fl_20 : y_flok (8, 27, 8, 4) := ⟨(RX8, TX8, 14), rfl, by decide, Or.inl (y_w 105 (by decide +kernel))⟩
theorem y_fl_21 : y_flok (11, 105, 8, 4) := ⟨(RX8, TX8, 14), rfl, by decide, Or.inl (y_w 106 (by decide +kernel))⟩
theorem y_fl_22 : y_flok (8, 30, 8, 5) := ⟨(RX8, TX8, 14), rfl, by decide, Or.inl (y_w 107 (by decide +kernel))⟩
theorem y_fl_23 : y_flok (8, 34, 8, 6) := ⟨(RX8, TX8, 14), rfl, by decide, Or.inl (y_w 108 (by decide +kernel))⟩
theorem y_fl_24 : y_flok (8, 37, 8, 7) := ⟨(RX8, TX8, 14), rfl, by decide, Or.inl (y_w 109 (by decide +kernel))⟩
theorem y_fl_25 : y_flok (8, 40, 8, 8) := ⟨(RX8, TX8, 14), rfl, by decide, Or.inl (y_w 110 (by decide +kernel))⟩
theorem y_fl_26 : y_flok (8, 43, 8, 9) := ⟨(RX8, TX8, 14), rfl, by decide, Or.inl (y_w 111 (by decide +kernel))⟩
theorem y_fl_27 : y_flok (8, 47, 8, 10) := ⟨(RX8, TX8, 14), rfl, by decide, Or.inl (y_w 112 (by decide +kernel))⟩
theorem y_fl_28 : y_flok (8, 50, 8, 11) := ⟨(RX8, TX8, 14), rfl, by decide, Or.inl (y_w 113 (by decide +kernel))⟩
theorem y_fl_29 : y_flok (8, 53, 8, 12) := ⟨(RX8, TX8, 14), rfl, by decide, Or.inl (y_w 114 (by decide +kernel))⟩
theorem y_fl_30 : y_flok (8, 56, 8, 13) := ⟨(RX8, TX8, 14), rfl, by decide, Or.inl (y_w 115 (by decide +kernel))⟩
theorem y_fl_31 : y_flok (4, 12, 4, 0) := ⟨(RX4, TX4, 5), rfl, by decide, Or.inl (y_w 172 (by decide +kernel))⟩
theorem y_fl_32 : y_flok (10, 45, 4, 0) := ⟨(RX4, TX4, 5), rfl, by decide, Or.inl (y_w 173 (by decide +kernel))⟩
theorem y_fl_33 : y_flok (5, 80, 4, 0) := ⟨(RX4, TX4, 5), rfl, by decide, Or.inl (y_w 174 (by decide +kernel))⟩
theorem y_fl_34 : y_flok (9, 167, 4, 0) := ⟨(RX4, TX4, 5), rfl, by decide, Or.inl (y_w 175 (by decide +kernel))⟩
theorem y_fl_35 : y_flok (11, 300, 4, 0) := ⟨(RX4, TX4, 5), rfl, by decide, Or.inl (y_w 176 (by decide +kernel))⟩
theorem y_fl_36 : y_flok (4, 16, 4, 1) := ⟨(RX4, TX4, 5), rfl, by decide, Or.inl (y_w 177 (by decide +kernel))⟩
theorem y_fl_37 : y_flok (4, 20, 4, 2) := ⟨(RX4, TX4, 5), rfl, by decide, Or.inl (y_w 178 (by decide +kernel))⟩
theorem y_fl_38 : y_flok (9, 166, 4, 2) := ⟨(RX4, TX4, 5), rfl, by decide, Or.inr ⟨"NumberSpeech", y_w 179 (by decide +kernel)⟩⟩
theorem y_fl_39 : y_flok (4, 23, 4, 3) := ⟨(RX4, TX4, 5), rfl, by decide, Or.inl (y_w 180 (by decide +kernel))⟩
theorem y_fl_40 : y_flok (9, 130, 4, 3) := ⟨(RX4, TX4, 5), rfl, by decide, Or.inr ⟨"NumberSpeech", y_w 181 (by decide +kernel)⟩⟩
theorem y_fl_41 : y_flok (4, 26, 4, 4) := ⟨(RX4, TX4, 5), rfl, by decide, Or.inl (y_w 182 (by decide +kernel))⟩
theorem y_fl_42 : y_flok (9, 129, 4, 4) := ⟨(RX4, TX4, 5), rfl, by decide, Or.inr ⟨"NumberSpeech", y_w 183 (by decide +kernel)⟩⟩
theorem y_fl_43 : y_flok (1, 11, 1, 0) := ⟨(RX1, TX1, 5), rfl, by decide, Or.inl (y_w 201 (by decide +kernel))⟩
theorem y_fl_44 : y_flok (1, 15, 1, 1) := ⟨(RX1, TX1, 5), rfl, by decide, Or.inl (y_w 202 (by decide +kernel))⟩
theorem y_fl_45 : y_flok (1, 18, 1, 2) := ⟨(RX1, TX1, 5), rfl, by decide, Or.inl (y_w 203 (by decide +kernel))⟩
theorem y_fl_46 : y_flok (1, 21, 1, 3) := ⟨(RX1, TX1, 5), rfl, by decide, Or.inl (y_w 204 (by decide +kernel))⟩
theorem y_fl_47 : y_flok (1, 24, 1, 4) := ⟨(RX1, TX1, 5), rfl, by decide, Or.inl (y_w 205 (by decide +kernel))⟩
theorem y_fl_48 : y_flok (9, 97, 1, 4) := ⟨(RX1, TX1, 5), rfl, by decide, Or.inl (y_w 206 (by decide +kernel))⟩
theorem y_fl_49 : y_flok (9, 12, 9, 0) := ⟨(RX9, TX9, 11), rfl, by decide, Or.inl (y_w 219 (by decide +kernel))⟩
theorem y_fl_50 : y_flok (10, 41, 9, 0) := ⟨(RX9, TX9, 11), rfl, by decide, Or.inl (y_w 220 (by decide +kernel))⟩
theorem y_fl_51 : y_flok (5, 76, 9, 0) := ⟨(RX9, TX9, 11), rfl, by decide, Or.inl (y_w 221 (by decide +kernel))⟩
theorem y_fl_52 : y_flok (11, 217, 9, 0) := ⟨(RX9, TX9, 11), rfl, by decide, Or.inl (y_w 222 (by decide +kernel))⟩
theorem y_fl_53 : y_flok (9, 21, 9, 1) := ⟨(RX9, TX9, 11), rfl, by decide, Or.inl (y_w 223 (by decide +kernel))⟩
theorem y_fl_54 : y_flok (11, 241, 9, 1) := ⟨(RX9, TX9, 11), rfl, by decide, Or.inl (y_w 224 (by decide +kernel))⟩
theorem y_fl_55 : y_flok (9, 27, 9, 2) := ⟨(RX9, TX9, 11), rfl, by decide, Or.inl (y_w 225 (by decide +kernel))⟩
theorem y_fl_56 : y_flok (9, 31, 9, 3) := ⟨(RX9, TX9, 11), rfl, by decide, Or.inl (y_w 226 (by decide +kernel))⟩
theorem y_fl_57 : y_flok (9, 35, 9, 4) := ⟨(RX9, TX9, 11), rfl, by decide, Or.inl (y_w 227 (by decide +kernel))⟩
theorem y_fl_58 : y_flok (9, 38, 9, 5) := ⟨(RX9, TX9, 11), rfl, by decide, Or.inl (y_w 228 (by decide +kernel))⟩
theorem y_fl_59 : y_flok (9, 42, 9, 6) := ⟨(RX9, TX9, 11), rfl, by decide, Or.inl (y_w 229 (by decide +kernel))⟩
theorem y_fl_60 : y_flok (9, 46, 9, 7) := ⟨(RX9, TX9, 11), rfl, by decide, Or.inl (y_w 230 (by decide +kernel))⟩
theorem y_fl_61 : y_flok (9, 49, 9, 8) := ⟨(RX9, TX9, 11), rfl, by decide, Or.inl (y_w 231 (by decide +kernel))⟩
theorem y_fl_62 : y_flok (9, 52, 9, 9) := ⟨(RX9, TX9, 11), rfl, by decide, Or.inl (y_w 232 (by decide +kernel))⟩
theorem y_fl_63 : y_flok (9, 55, 9, 10) := ⟨(RX9, TX9, 11), rfl, by decide, Or.inl (y_w 233 (by decide +kernel))⟩
theorem y_fl_64 : y_flok (5, 12, 5, 0) := ⟨(RX5, TX5, 11), rfl, by decide, Or.inl (y_w 257 (by decide +kernel))⟩
theorem y_fl_65 : y_flok (11, 170, 5, 0) := ⟨(RX5, TX5, 11), rfl, by decide, Or.inl (y_w 258 (by decide +kernel))⟩
theorem y_fl_66 : y_flok (5, 18, 5, 1) := ⟨(RX5, TX5, 11), rfl, by decide, Or.inl (y_w 259 (by decide +kernel))⟩
theorem y_fl_67 : y_flok (5, 22, 5, 2) := ⟨(RX5, TX5, 11), rfl, by decide, Or.inl (y_w 260 (by decide +kernel))⟩
theorem y_fl_68 : y_flok (5, 25, 5, 3) := ⟨(RX5, TX5, 11), rfl, by decide, Or.inl (y_w 261 (by decide +kernel))⟩
theorem y_fl_69 : y_flok (5, 29, 5, 4) := ⟨(RX5, TX5, 11), rfl, by decide, Or.inl (y_w 262 (by decide +kernel))⟩
theorem y_fl_70 : y_flok (5, 32, 5, 5) := ⟨(RX5, TX5, 11), rfl, by decide, Or.inl (y_w 263 (by decide +kernel))⟩
theorem y_fl_71 : y_flok (5, 35, 5, 6) := ⟨(RX5, TX5, 11), rfl, by decide, Or.inl (y_w 264 (by decide +kernel))⟩
theorem y_fl_72 : y_flok (5, 38, 5, 7) := ⟨(RX5, TX5, 11), rfl, by decide, Or.inl (y_w 265 (by decide +kernel))⟩
theorem y_fl_73 : y_flok (11, 256, 5, 7) := ⟨(RX5, TX5, 11), rfl, by decide, Or.inl (y_w 266 (by decide +kernel))⟩
theorem y_fl_74 : y_flok (5, 41, 5, 8) := ⟨(RX5, TX5, 11), rfl, by decide, Or.inl (y_w 267 (by decide +kernel))⟩
theorem y_fl_75 : y_flok (11, 259, 5, 8) := ⟨(RX5, TX5, 11), rfl, by decide, Or.inl (y_w 268 (by decide +kernel))⟩
theorem y_fl_76 : y_flok (5, 44, 5, 9) := ⟨(RX5, TX5, 11), rfl, by decide, Or.inl (y_w 269 (by decide +kernel))⟩
theorem y_fl_77 : y_flok (11, 262, 5, 9) := ⟨(RX5, TX5, 11), rfl, by decide, Or.inl (y_w 270 (by decide +kernel))⟩
theorem y_fl_78 : y_flok (5, 47, 5, 10) := ⟨(RX5, TX5, 11), rfl, by decide, Or.inl (y_w 271 (by decide +kernel))⟩
theorem y_fl_79 : y_flok (11, 265, 5, 10) := ⟨(RX5, TX5, 11), rfl, by decide, Or.inl (y_w 272 (by decide +kernel))⟩
theorem y_fl_80 : y_flok (10, 12, 10, 0) := ⟨(RX10, TX10, 5), rfl, by decide, Or.inl (y_w 305 (by decide +kernel))⟩
theorem y_fl_81 : y_flok (10, 16, 10, 1) := ⟨(RX10, TX10, 5), rfl, by decide, Or.inl (y_w 306 (by decide +kernel))⟩
theorem y_fl_82 : y_flok (10, 19, 10, 2) := ⟨(RX10, TX10, 5), rfl, by decide, Or.inl (y_w 307 (by decide +kernel))⟩
theorem y_fl_83 : y_flok (10, 22, 10, 3) := ⟨(RX10, TX10, 5), rfl, by decide, Or.inl (y_w 308 (by decide +kernel))⟩
theorem y_fl_84 : y_flok (11, 319, 10, 3) := ⟨(RX10, TX10, 5), rfl, by decide, Or.inl (y_w 309 (by decide +kernel))⟩
theorem y_fl_85 : y_flok (10, 26, 10, 4) := ⟨(RX10, TX10, 5), rfl, by decide, Or.inl (y_w 310 (by decide +kernel))⟩
theorem y_fl_86 : y_flok (2, 9, 2, 0) := ⟨(RX2, TX2, 9), rfl, by decide, Or.inl (y_w 328 (by decide +kernel))⟩
theorem y_fl_87 : y_flok (2, 15, 2, 1) := ⟨(RX2, TX2, 9), rfl, by decide, Or.inl (y_w 329 (by decide +kernel))⟩
theorem y_fl_88 : y_flok (2, 19, 2, 2) := ⟨(RX2, TX2, 9), rfl, by decide, Or.inl (y_w 330 (by decide +kernel))⟩
theorem y_fl_89 : y_flok (2, 22, 2, 3) := ⟨(RX2, TX2, 9), rfl, by decide, Or.inl (y_w 331 (by decide +kernel))⟩
theorem y_fl_90 : y_flok (2, 26, 2, 4) := ⟨(RX2, TX2, 9), rfl, by decide, Or.inl (y_w 332 (by decide +kernel))⟩
theorem y_fl_91 : y_flok (2, 30, 2, 5) := ⟨(RX2, TX2, 9), rfl, by decide, Or.inl (y_w 333 (by decide +kernel))⟩
theorem y_fl_92 : y_flok (2, 33, 2, 6) := ⟨(RX2, TX2, 9), rfl, by decide, Or.inl (y_w 334 (by decide +kernel))⟩
theorem y_fl_93 : y_flok (2, 36, 2, 7) := ⟨(RX2, TX2, 9), rfl, by decide, Or.inl (y_w 335 (by decide +kernel))⟩
theorem y_fl_94 : y_flok (2, 39, 2, 8) := ⟨(RX2, TX2, 9), rfl, by decide, Or.inl (y_w 336 (by decide +kernel))⟩
theorem y_fl_95 : y_flok (11, 297, 2, 8) := ⟨(RX2, TX2, 9), rfl, by decide, Or.inl (y_w 337 (by decide +kernel))⟩
theorem y_fl_96 : y_flok (11, 12, 11, 0) := ⟨(RX11, TX11, 13), rfl, by decide, Or.inl (y_w 357 (by decide +kernel))⟩
theorem y_fl_97 : y_flok (11, 19, 11, 1) := ⟨(RX11, TX11, 13), rfl, by decide, Or.inl (y_w 358 (by decide +kernel))⟩
theorem y_fl_98 : y_flok (11, 26, 11, 2) := ⟨(RX11, TX11, 13), rfl, by decide, Or.inl (y_w 359 (by decide +kernel))⟩
theorem y_fl_99 : y_flok (11, 33, 11, 3) := ⟨(RX11, TX11, 13), rfl, by decide, Or.inl (y_w 360 (by decide +kernel))⟩
theorem y_fl_100 : y_flok (11, 40, 11, 4) := ⟨(RX11, TX11, 13), rfl, by decide, Or.inl (y_w 361 (by decide +kernel))⟩
theorem y_fl_101 : y_flok (11, 44, 11, 5) := ⟨(RX11, TX11, 13), rfl, by decide, Or.inl (y_w 362 (by decide +kernel))⟩
theorem y_fl_102 : y_flok (11, 50, 11, 6) := ⟨(RX11, TX11, 13), rfl, by decide, Or.inl (y_w 363 (by decide +kernel))⟩
theorem y_fl_103 : y_flok (11, 57, 11, 7) := ⟨(RX11, TX11, 13), rfl, by decide, Or.inl (y_w 364 (by decide +kernel))⟩
theorem y_fl_104 : y_flok (11, 64, 11, 8) := ⟨(RX11, TX11, 13), rfl, by decide, Or.inl (y_w 365 (by decide +kernel))⟩
theorem y_fl_105 : y_flok (11, 68, 11, 9) := ⟨(RX11, TX11, 13), rfl, by decide, Or.inl (y_w 366 (by decide +kernel))⟩
theorem y_fl_106 : y_flok (11, 72, 11, 10) := ⟨(RX11, TX11, 13), rfl, by decide, Or.inl (y_w 367 (by decide +kernel))⟩
theorem y_fl_107 : y_flok (11, 76, 11, 11) := ⟨(RX11, TX11, 13), rfl, by decide, Or.inl (y_w 368 (by decide +kernel))⟩
theorem y_fl_108 : y_flok (11, 79, 11, 12) := ⟨(RX11, TX11, 13), rfl, by decide, Or.inl (y_w 369 (by decide +kernel))⟩
theorem y_fl_109 : y_flok (6, 9, 6, 0) := ⟨(RX6, TX6, 7), rfl, by decide, Or.inl (y_w 821 (by decide +kernel))⟩
theorem y_fl_110 : y_flok (11, 176, 6, 0) := ⟨(RX6, TX6, 7), rfl, by decide, Or.inl (y_w 822 (by decide +kernel))⟩
theorem y_fl_111 : y_flok (6, 15, 6, 1) := ⟨(RX6, TX6, 7), rfl, by decide, Or.inl (y_w 823 (by decide +kernel))⟩
theorem y_fl_112 : y_flok (11, 181, 6, 1) := ⟨(RX6, TX6, 7), rfl, by decide, Or.inl (y_w 824 (by decide +kernel))⟩
theorem y_fl_113 : y_flok (6, 18, 6, 2) := ⟨(RX6, TX6, 7), rfl, by decide, Or.inl (y_w 825 (by decide +kernel))⟩
theorem y_fl_114 : y_flok (11, 184, 6, 2) := ⟨(RX6, TX6, 7), rfl, by decide, Or.inl (y_w 826 (by decide +kernel))⟩
theorem y_fl_115 : y_flok (6, 21, 6, 3) := ⟨(RX6, TX6, 7), rfl, by decide, Or.inl (y_w 827 (by decide +kernel))⟩
theorem y_fl_116 : y_flok (11, 187, 6, 3) := ⟨(RX6, TX6, 7), rfl, by decide, Or.inl (y_w 828 (by decide +kernel))⟩
theorem y_fl_117 : y_flok (6, 39, 6, 4) := ⟨(RX6, TX6, 7), rfl, by decide, Or.inl (y_w 829 (by decide +kernel))⟩
theorem y_fl_118 : y_flok (6, 43, 6, 5) := ⟨(RX6, TX6, 7), rfl, by decide, Or.inl (y_w 830 (by decide +kernel))⟩
theorem y_fl_119 : y_flok (6, 49, 6, 6) := ⟨(RX6, TX6, 7), rfl, by decide, Or.inl (y_w 831 (by decide +kernel))⟩
theorem y_fl_120 : y_flok (12, 121, 12, 0) := ⟨(RX12, TX12, 50), rfl, by decide, Or.inl (y_w 1305 (by decide +kernel))⟩
theorem y_fl_121 : y_flok (12, 9, 12, 1) := ⟨(RX12, TX12, 50), rfl, by decide, Or.inl (y_w 1306 (by decide +kernel))⟩
theorem y_fl_122 : y_flok (12, 124, 12, 2) := ⟨(RX12, TX12, 50), rfl, by decide, Or.inl (y_w 1307 (by decide +kernel))⟩
theorem y_fl_123 : y_flok (12, 127, 12, 3) := ⟨(RX12, TX12, 50), rfl, by decide, Or.inl (y_w 1308 (by decide +kernel))⟩
theorem y_fl_124 : y_flok (12, 130, 12, 4) := ⟨(RX12, TX12, 50), rfl, by decide, Or.inl (y_w 1309 (by decide +kernel))⟩
theorem y_fl_125 : y_flok (12, 13, 12, 5) := ⟨(RX12, TX12, 50), rfl, by decide, Or.inl (y_w 1310 (by decide +kernel))⟩
theorem y_fl_126 : y_flok (12, 137, 12, 6) := ⟨(RX12, TX12, 50), rfl, by decide, Or.inl (y_w 1311 (by decide +kernel))⟩
theorem y_fl_127 : y_flok (12, 140, 12, 7) := ⟨(RX12, TX12, 50), rfl, by decide, Or.inl (y_w 1312 (by decide +kernel))⟩
theorem y_fl_128 : y_flok (12, 17, 12, 8) := ⟨(RX12, TX12, 50), rfl, by decide, Or.inl (y_w 1313 (by decide +kernel))⟩
theorem y_fl_129 : y_flok (12, 20, 12, 9) := ⟨(RX12, TX12, 50), rfl, by decide, Or.inl (y_w 1314 (by decide +kernel))⟩
theorem y_fl_130 : y_flok (12, 23, 12, 10) := ⟨(RX12, TX12, 50), rfl, by decide, Or.inl (y_w 1315 (by decide +kernel))⟩
theorem y_fl_131 : y_flok (12, 28, 12, 11) := ⟨(RX12, TX12, 50), rfl, by decide, Or.inl (y_w 1316 (by decide +kernel))⟩
theorem y_fl_132 : y_flok (12, 33, 12, 12) := ⟨(RX12, TX12, 50), rfl, by decide, Or.inl (y_w 1317 (by decide +kernel))⟩
theorem y_fl_133 : y_flok (12, 36, 12, 13) := ⟨(RX12, TX12, 50), rfl, by decide, Or.inl (y_w 1318 (by decide +kernel))⟩
theorem y_fl_134 : y_flok (12, 242, 12, 14) := ⟨(RX12, TX12, 50), rfl, by decide, Or.inl (y_w 1319 (by decide +kernel))⟩
theorem y_fl_135 : y_flok (12, 39, 12, 15) := ⟨(RX12, TX12, 50), rfl, by decide, Or.inl (y_w 1320 (by decide +kernel))⟩
theorem y_fl_136 : y_flok (12, 281, 12, 16) := ⟨(RX12, TX12, 50), rfl, by decide, Or.inl (y_w 1321 (by decide +kernel))⟩
theorem y_fl_137 : y_flok (12, 258, 12, 17) := ⟨(RX12, TX12, 50), rfl, by decide, Or.inl (y_w 1322 (by decide +kernel))⟩
theorem y_fl_138 : y_flok (12, 272, 12, 18) := ⟨(RX12, TX12, 50), rfl, by decide, Or.inl (y_w 1323 (by decide +kernel))⟩
theorem y_fl_139 : y_flok (12, 255, 12, 19) := ⟨(RX12, TX12, 50), rfl, by decide, Or.inl (y_w 1324 (by decide +kernel))⟩
theorem y_fl_140 : y_flok (12, 43, 12, 20) := ⟨(RX12, TX12, 50), rfl, by decide, Or.inl (y_w 1325 (by decide +kernel))⟩
theorem y_fl_141 : y_flok (12, 48, 12, 21) := ⟨(RX12, TX12, 50), rfl, by decide, Or.inl (y_w 1326 (by decide +kernel))⟩
theorem y_fl_142 : y_flok (12, 51, 12, 22) := ⟨(RX12, TX12, 50), rfl, by decide, Or.inl (y_w 1327 (by decide +kernel))⟩
theorem y_fl_143 : y_flok (12, 55, 12, 23) := ⟨(RX12, TX12, 50), rfl, by decide, Or.inl (y_w 1328 (by decide +kernel))⟩
theorem y_fl_144 : y_flok (12, 58, 12, 24) := ⟨(RX12, TX12, 50), rfl, by decide, Or.inl (y_w 1329 (by decide +kernel))⟩
theorem y_fl_145 : y_flok (12, 61, 12, 25) := ⟨(RX12, TX12, 50), rfl, by decide, Or.inl (y_w 1330 (by decide +kernel))⟩
theorem y_fl_146 : y_flok (12, 64, 12, 26) := ⟨(RX12, TX12, 50), rfl, by decide, Or.inl (y_w 1331 (by decide +kernel))⟩
theorem y_fl_147 : y_flok (12, 67, 12, 27) := ⟨(RX12, TX12, 50), rfl, by decide, Or.inl (y_w 1332 (by decide +kernel))⟩
theorem y_fl_148 : y_flok (12, 70, 12, 28) := ⟨(RX12, TX12, 50), rfl, by decide, Or.inl (y_w 1333 (by decide +kernel))⟩
theorem y_fl_149 : y_flok (12, 73, 12, 29) := ⟨(RX12, TX12, 50), rfl, by decide, Or.inl (y_w 1334 (by decide +kernel))⟩
theorem y_fl_150 : y_flok (12, 76, 12, 30) := ⟨(RX12, TX12, 50), rfl, by decide, Or.inl (y_w 1335 (by decide +kernel))⟩
theorem y_fl_151 : y_flok (12, 330, 12, 31) := ⟨(RX12, TX12, 50), rfl, by decide, Or.inl (y_w 1336 (by decide +kernel))⟩
theorem y_fl_152 : y_flok (12, 79, 12, 32) := ⟨(RX12, TX12, 50), rfl, by decide, Or.inl (y_w 1337 (by decide +kernel))⟩
theorem y_fl_153 : y_flok (12, 339, 12, 33) := ⟨(RX12, TX12, 50), rfl, by decide, Or.inl (y_w 1338 (by decide +kernel))⟩
theorem y_fl_154 : y_flok (12, 342, 12, 34) := ⟨(RX12, TX12, 50), rfl, by decide, Or.inl (y_w 1339 (by decide +kernel))⟩
theorem y_fl_155 : y_flok (12, 345, 12, 35) := ⟨(RX12, TX12, 50), rfl, by decide, Or.inl (y_w 1340 (by decide +kernel))⟩
theorem y_fl_156 : y_flok (12, 356, 12, 36) := ⟨(RX12, TX12, 50), rfl, by decide, Or.inl (y_w 1341 (by decide +kernel))⟩
theorem y_fl_157 : y_flok (12, 82, 12, 37) := ⟨(RX12, TX12, 50), rfl, by decide, Or.inl (y_w 1342 (by decide +kernel))⟩
theorem y_fl_158 : y_flok (12, 85, 12, 38) := ⟨(RX12, TX12, 50), rfl, by decide, Or.inl (y_w 1343 (by decide +kernel))⟩
theorem y_fl_159 : y_flok (12, 88, 12, 39) := ⟨(RX12, TX12, 50), rfl, by decide, Or.inl (y_w 1344 (by decide +kernel))⟩
theorem y_fl_160 : y_flok (12, 91, 12, 40) := ⟨(RX12, TX12, 50), rfl, by decide, Or.inl (y_w 1345 (by decide +kernel))⟩
theorem y_fl_161 : y_flok (12, 94, 12, 41) := ⟨(RX12, TX12, 50), rfl, by decide, Or.inl (y_w 1346 (by decide +kernel))⟩
theorem y_fl_162 : y_flok (12, 97, 12, 42) := ⟨(RX12, TX12, 50), rfl, by decide, Or.inl (y_w 1347 (by decide +kernel))⟩
theorem y_fl_163 : y_flok (12, 100, 12, 43) := ⟨(RX12, TX12, 50), rfl, by decide, Or.inl (y_w 1348 (by decide +kernel))⟩
theorem y_fl_164 : y_flok (12, 104, 12, 44) := ⟨(RX12, TX12, 50), rfl, by decide, Or.inl (y_w 1349 (by decide +kernel))⟩
theorem y_fl_165 : y_flok (12, 109, 12, 45) := ⟨(RX12, TX12, 50), rfl, by decide, Or.inl (y_w 1350 (by decide +kernel))⟩
theorem y_fl_166 : y_flok (12, 112, 12, 46) := ⟨(RX12, TX12, 50), rfl, by decide, Or.inl (y_w 1351 (by decide +kernel))⟩
theorem y_fl_167 : y_flok (12, 115, 12, 47) := ⟨(RX12, TX12, 50), rfl, by decide, Or.inl (y_w 1352 (by decide +kernel))⟩
theorem y_fl_168 : y_flok (12, 118, 12, 48) := ⟨(RX12, TX12, 50), rfl, by decide, Or.inl (y_w 1353 (by decide +kernel))⟩
theorem y_fl_169 : y_flok (12, 379, 12, 49) := ⟨(RX12, TX12, 50), rfl, by decide, Or.inl (y_w 1354 (by decide +kernel))⟩
set_option maxRecDepth 100000 in
theorem y_fl : ∀ e ∈ t_fl, y_flok e := List.forall_mem_cons.mpr ⟨y_fl_0, List.forall_mem_cons.mpr ⟨y_fl_1, List.forall_mem_cons.mpr ⟨y_fl_2, List.forall_mem_cons.mpr ⟨y_fl_3, List.forall_mem_cons.mpr ⟨y_fl_4, List.forall_mem_cons.mpr ⟨y_fl_5, List.forall_mem_cons.mpr ⟨y_fl_6, List.forall_mem_cons.mpr ⟨y_fl_7, List.forall_mem_cons.mpr ⟨y_fl_8, List.forall_mem_cons.mpr ⟨y_fl_9, List.forall_mem_cons.mpr ⟨y_fl_10, List.forall_mem_cons.mpr ⟨y_fl_11, List.forall_mem_cons.mpr ⟨y_fl_12, List.forall_mem_cons.mpr ⟨y_fl_13, List.forall_mem_cons.mpr ⟨y_fl_14, List.forall_mem_cons.mpr ⟨y_fl_15, List.forall_mem_cons.mpr ⟨y_fl_16, List.forall_mem_cons.mpr ⟨y_fl_17, List.forall_mem_cons.mpr ⟨y_fl_18, List.forall_mem_cons.mpr ⟨y_fl_19, List.forall_mem_cons.mpr ⟨y_fl_20, List.forall_mem_cons.mpr ⟨y_fl_21, List.forall_mem_cons.mpr ⟨y_fl_22, List.forall_mem_cons.mpr ⟨y_fl_23, List.forall_mem_cons.mpr ⟨y_fl_24, List.forall_mem_cons.mpr ⟨y_fl_25, List.forall_mem_cons.mpr ⟨y_fl_26, List.forall_mem_cons.mpr ⟨y_fl_27, List.forall_mem_cons.mpr ⟨y_fl_28, List.forall_mem_cons.mpr ⟨y_fl_29, List.forall_mem_cons.mpr ⟨y_fl_30, List.forall_mem_cons.mpr ⟨y_fl_31, List.forall_mem_cons.mpr ⟨y_fl_32, List.forall_mem_cons.mpr ⟨y_fl_33, List.forall_mem_cons.mpr ⟨y_fl_34, List.forall_mem_cons.mpr ⟨y_fl_35, List.forall_mem_cons.mpr ⟨y_fl_36, List.forall_mem_cons.mpr ⟨y_fl_37, List.forall_mem_cons.mpr ⟨y_fl_38, List.forall_mem_cons.mpr ⟨y_fl_39, List.forall_mem_cons.mpr ⟨y_fl_40, List.forall_mem_cons.mpr ⟨y_fl_41, List.forall_mem_cons.mpr ⟨y_fl_42, List.forall_mem_cons.mpr ⟨y_fl_43, List.forall_mem_cons.mpr ⟨y_fl_44, List.forall_mem_cons.mpr ⟨y_fl_45, List.forall_mem_cons.mpr ⟨y_fl_46, List.forall_mem_cons.mpr ⟨y_fl_47, List.forall_mem_cons.mpr ⟨y_fl_48, List.forall_mem_cons.mpr ⟨y_fl_49, List.forall_mem_cons.mpr ⟨y_fl_50, List.forall_mem_cons.mpr ⟨y_fl_51, List.forall_mem_cons.mpr ⟨y_fl_52, List.forall_mem_cons.mpr ⟨y_fl_53, List.forall_mem_cons.mpr ⟨y_fl_54, List.forall_mem_cons.mpr ⟨y_fl_55, List.forall_mem_cons.mpr ⟨y_fl_56, List.forall_mem_cons.mpr ⟨y_fl_57, List.forall_mem_cons.mpr ⟨y_fl_58, List.forall_mem_cons.mpr ⟨y_fl_59, List.forall_mem_cons.mpr ⟨y_fl_60, List.forall_mem_cons.mpr ⟨y_fl_61, List.forall_mem_cons.mpr ⟨y_fl_62, List.forall_mem_cons.mpr ⟨y_fl_63, List.forall_mem_cons.mpr ⟨y_fl_64, List.forall_mem_cons.mpr ⟨y_fl_65, List.forall_mem_cons.mpr ⟨y_fl_66, List.forall_mem_cons.mpr ⟨y_fl_67, List.forall_mem_cons.mpr ⟨y_fl_68, List.forall_mem_cons.mpr ⟨y_fl_69, List.forall_mem_cons.mpr ⟨y_fl_70, List.forall_mem_cons.mpr ⟨y_fl_71, List.forall_mem_cons.mpr ⟨y_fl_72, List.forall_mem_cons.mpr ⟨y_fl_73, List.forall_mem_cons.mpr ⟨y_fl_74, List.forall_mem_cons.mpr ⟨y_fl_75, List.forall_mem_cons.mpr ⟨y_fl_76, List.forall_mem_cons.mpr ⟨y_fl_77, List.forall_mem_cons.mpr ⟨y_fl_78, List.forall_mem_cons.mpr ⟨y_fl_79, List.forall_mem_cons.mpr ⟨y_fl_80, List.forall_mem_cons.mpr ⟨y_fl_81, List.forall_mem_cons.mpr ⟨y_fl_82, List.forall_mem_cons.mpr ⟨y_fl_83, List.forall_mem_cons.mpr ⟨y_fl_84, List.forall_mem_cons.mpr ⟨y_fl_85, List.forall_mem_cons.mpr ⟨y_fl_86, List.forall_mem_cons.mpr ⟨y_fl_87, List.forall_mem_cons.mpr ⟨y_fl_88, List.forall_mem_cons.mpr ⟨y_fl_89, List.forall_mem_cons.mpr ⟨y_fl_90, List.forall_mem_cons.mpr ⟨y_fl_91, List.forall_mem_cons.mpr ⟨y_fl_92, List.forall_mem_cons.mpr ⟨y_fl_93, List.forall_mem_cons.mpr ⟨y_fl_94, List.forall_mem_cons.mpr ⟨y_fl_95, List.forall_mem_cons.mpr ⟨y_fl_96, List.forall_mem_cons.mpr ⟨y_fl_97, List.forall_mem_cons.mpr ⟨y_fl_98, List.forall_mem_cons.mpr ⟨y_fl_99, List.forall_mem_cons.mpr ⟨y_fl_100, List.forall_mem_cons.mpr ⟨y_fl_101, List.forall_mem_cons.mpr ⟨y_fl_102, List.forall_mem_cons.mpr ⟨y_fl_103, List.forall_mem_cons.mpr ⟨y_fl_104, List.forall_mem_cons.mpr ⟨y_fl_105, List.forall_mem_cons.mpr ⟨y_fl_106, List.forall_mem_cons.mpr ⟨y_fl_107, List.forall_mem_cons.mpr ⟨y_fl_108, List.forall_mem_cons.mpr ⟨y_fl_109, List.forall_mem_cons.mpr ⟨y_fl_110, List.forall_mem_cons.mpr ⟨y_fl_111, List.forall_mem_cons.mpr ⟨y_fl_112, List.forall_mem_cons.mpr ⟨y_fl_113, List.forall_mem_cons.mpr ⟨y_fl_114, List.forall_mem_cons.mpr ⟨y_fl_115, List.forall_mem_cons.mpr ⟨y_fl_116, List.forall_mem_cons.mpr ⟨y_fl_117, List.forall_mem_cons.mpr ⟨y_fl_118, List.forall_mem_cons.mpr ⟨y_fl_119, List.forall_mem_cons.mpr ⟨y_fl_120, List.forall_mem_cons.mpr ⟨y_fl_121, List.forall_mem_cons.mpr ⟨y_fl_122, List.forall_mem_cons.mpr ⟨y_fl_123, List.forall_mem_cons.mpr ⟨y_fl_124, List.forall_mem_cons.mpr ⟨y_fl_125, List.forall_mem_cons.mpr ⟨y_fl_126, List.forall_mem_cons.mpr ⟨y_fl_127, List.forall_mem_cons.mpr ⟨y_fl_128, List.forall_mem_cons.mpr ⟨y_fl_129, List.forall_mem_cons.mpr ⟨y_fl_130, List.forall_mem_cons.mpr ⟨y_fl_131, List.forall_mem_cons.mpr ⟨y_fl_132, List.forall_mem_cons.mpr ⟨y_fl_133, List.forall_mem_cons.mpr ⟨y_fl_134, List.forall_mem_cons.mpr ⟨y_fl_135, List.forall_mem_cons.mpr ⟨y_fl_136, List.forall_mem_cons.mpr ⟨y_fl_137, List.forall_mem_cons.mpr ⟨y_fl_138, List.forall_mem_cons.mpr ⟨y_fl_139, List.forall_mem_cons.mpr ⟨y_fl_140, List.forall_mem_cons.mpr ⟨y_fl_141, List.forall_mem_cons.mpr ⟨y_fl_142, List.forall_mem_cons.mpr ⟨y_fl_143, List.forall_mem_cons.mpr ⟨y_fl_144, List.forall_mem_cons.mpr ⟨y_fl_145, List.forall_mem_cons.mpr ⟨y_fl_146, List.forall_mem_cons.mpr ⟨y_fl_147, List.forall_mem_cons.mpr ⟨y_fl_148, List.forall_mem_cons.mpr ⟨y_fl_149, List.forall_mem_cons.mpr ⟨y_fl_150, List.forall_mem_cons.mpr ⟨y_fl_151, List.forall_mem_cons.mpr ⟨y_fl_152, List.forall_mem_cons.mpr ⟨y_fl_153, List.forall_mem_cons.mpr ⟨y_fl_154, List.forall_mem_cons.mpr ⟨y_fl_155, List.forall_mem_cons.mpr ⟨y_fl_156, List.forall_mem_cons.mpr ⟨y_fl_157, List.forall_mem_cons.mpr ⟨y_fl_158, List.forall_mem_cons.mpr ⟨y_fl_159, List.forall_mem_cons.mpr ⟨y_fl_160, List.forall_mem_cons.mpr ⟨y_fl_161, List.forall_mem_cons.mpr ⟨y_fl_162, List.forall_mem_cons.mpr ⟨y_fl_163, List.forall_mem_cons.mpr ⟨y_fl_164, List.forall_mem_cons.mpr ⟨y_fl_165, List.forall_mem_cons.mpr ⟨y_fl_166, List.forall_mem_cons.mpr ⟨y_fl_167, List.forall_mem_cons.mpr ⟨y_fl_168, List.forall_mem_cons.mpr ⟨y_fl_169, fun _ h => absurd h List.not_mem_nil⟩⟩⟩⟩⟩⟩⟩⟩⟩⟩⟩⟩⟩⟩⟩⟩⟩⟩⟩⟩⟩⟩⟩⟩⟩⟩⟩⟩⟩⟩⟩⟩⟩⟩⟩⟩⟩⟩⟩⟩⟩⟩⟩⟩⟩⟩⟩⟩⟩⟩⟩⟩⟩⟩⟩⟩⟩⟩⟩⟩⟩⟩⟩⟩⟩⟩⟩⟩⟩⟩⟩⟩⟩⟩⟩⟩⟩⟩⟩⟩⟩⟩⟩⟩⟩⟩⟩⟩⟩⟩⟩⟩⟩⟩⟩⟩⟩⟩⟩⟩⟩⟩⟩⟩⟩⟩⟩⟩⟩⟩⟩⟩⟩⟩⟩⟩⟩⟩⟩⟩⟩⟩⟩⟩⟩⟩⟩⟩⟩⟩⟩⟩⟩⟩⟩⟩⟩⟩⟩⟩⟩⟩⟩⟩⟩⟩⟩⟩⟩⟩⟩⟩⟩⟩⟩⟩⟩⟩⟩⟩⟩⟩⟩⟩⟩⟩⟩⟩⟩⟩
/-- the classes: known by the tables -/
theorem y_in_0 : Cond.instantiable RX0 3 ∈ lw_tbl := y_w 51 (by decide +kernel)
theorem y_in_1 : Cond.instantiable RX1 5 ∈ lw_tbl := y_w 196 (by decide +kernel)
theorem y_in_2 : Cond.instantiable RX2 9 ∈ lw_tbl := y_w 323 (by decide +kernel)
theorem y_in_3 : Cond.instantiable RX3 3 ∈ lw_tbl := y_w 71 (by decide +kernel)
theorem y_in_4 : Cond.instantiable RX4 5 ∈ lw_tbl := y_w 159 (by decide +kernel)
theorem y_in_5 : Cond.instantiable RX5 11 ∈ lw_tbl := y_w 147 (by decide +kernel)
theorem y_in_6 : Cond.instantiable RX6 7 ∈ lw_tbl := y_w 794 (by decide +kernel)
theorem y_in_7 : Cond.instantiable RX7 2 ∈ lw_tbl := y_w 35 (by decide +kernel)
theorem y_in_8 : Cond.instantiable RX8 14 ∈ lw_tbl := y_w 91 (by decide +kernel)
theorem y_in_9 : Cond.instantiable RX9 11 ∈ lw_tbl := y_w 153 (by decide +kernel)
theorem y_in_10 : Cond.instantiable RX10 5 ∈ lw_tbl := y_w 299 (by decide +kernel)
theorem y_in_11 : Cond.instantiable RX11 13 ∈ lw_tbl := y_w 27 (by decide +kernel)
theorem y_in_12 : Cond.instantiable RX12 50 ∈ lw_tbl := y_w 1290 (by decide +kernel)
theorem y_ini_0 : Cond.initialized (y_own 0) ∈ lw_tbl := y_w 3 (by decide +kernel)
theorem y_ini_1 : Cond.initialized (y_own 1) ∈ lw_tbl := y_w 10 (by decide +kernel)
theorem y_ini_2 : Cond.initialized (y_own 2) ∈ lw_tbl := y_w 12 (by decide +kernel)
theorem y_ini_3 : Cond.initialized (y_own 3) ∈ lw_tbl := y_w 4 (by decide +kernel)
theorem y_ini_4 : Cond.initialized (y_own 4) ∈ lw_tbl := y_w 8 (by decide +kernel)
theorem y_ini_5 : Cond.initialized (y_own 5) ∈ lw_tbl := y_w 6 (by decide +kernel)
theorem y_ini_6 : Cond.initialized (y_own 6) ∈ lw_tbl := y_w 23 (by decide +kernel)
theorem y_ini_7 : Cond.initialized (y_own 7) ∈ lw_tbl := y_w 2 (by decide +kernel)
theorem y_ini_8 : Cond.initialized (y_own 8) ∈ lw_tbl := y_w 5 (by decide +kernel)
theorem y_ini_9 : Cond.initialized (y_own 9) ∈ lw_tbl := y_w 7 (by decide +kernel)
theorem y_ini_10 : Cond.initialized (y_own 10) ∈ lw_tbl := y_w 11 (by decide +kernel)
theorem y_ini_11 : Cond.initialized (y_own 11) ∈ lw_tbl := y_w 1 (by decide +kernel)
theorem y_ini_12 : Cond.initialized (y_own 12) ∈ lw_tbl := y_w 13 (by decide +kernel)
theorem y_ini_13 : Cond.initialized (y_own 13) ∈ lw_tbl := y_w 0 (by decide +kernel)
theorem y_ini_14 : Cond.initialized (y_own 14) ∈ lw_tbl := y_w 9 (by decide +kernel)
def y_nwok (e : Nat × Nat × Nat) : Prop := Cond.classLink (y_own e.1) e.2.1 (y_own e.2.2) ∈ lw_tbl
theorem y_nw_0 : y_nwok (13, 8, 11) := y_w 26 (by decide +kernel)
theorem y_nw_1 : y_nwok (11, 9, 7) := y_w 34 (by decide +kernel)
theorem y_nw_2 : y_nwok (11, 16, 0) := y_w 50 (by decide +kernel)
theorem y_nw_3 : y_nwok (0, 9, 6) := y_w 56 (by decide +kernel)
theorem y_nw_4 : y_nwok (11, 23, 3) := y_w 70 (by decide +kernel)
theorem y_nw_5 : y_nwok (3, 9, 0) := y_w 76 (by decide +kernel)
theorem y_nw_6 : y_nwok (11, 30, 8) := y_w 90 (by decide +kernel)
theorem y_nw_7 : y_nwok (8, 9, 6) := y_w 96 (by decide +kernel)
theorem y_nw_8 : y_nwok (11, 37, 5) := y_w 146 (by decide +kernel)
theorem y_nw_9 : y_nwok (5, 9, 9) := y_w 152 (by decide +kernel)
theorem y_nw_10 : y_nwok (9, 9, 4) := y_w 158 (by decide +kernel)
theorem y_nw_11 : y_nwok (9, 18, 1) := y_w 195 (by decide +kernel)
theorem y_nw_12 : y_nwok (9, 25, 6) := y_w 218 (by decide +kernel)
theorem y_nw_13 : y_nwok (11, 47, 9) := y_w 296 (by decide +kernel)
theorem y_nw_14 : y_nwok (11, 54, 10) := y_w 298 (by decide +kernel)
theorem y_nw_15 : y_nwok (11, 61, 2) := y_w 322 (by decide +kernel)
theorem y_nw_16 : y_nwok (13, 103, 12) := y_w 1289 (by decide +kernel)
set_option maxRecDepth 100000 in
theorem y_nw : ∀ e ∈ t_nw, y_nwok e := List.forall_mem_cons.mpr ⟨y_nw_0, List.forall_mem_cons.mpr ⟨y_nw_1, List.forall_mem_cons.mpr ⟨y_nw_2, List.forall_mem_cons.mpr ⟨y_nw_3, List.forall_mem_cons.mpr ⟨y_nw_4, List.forall_mem_cons.mpr ⟨y_nw_5, List.forall_mem_cons.mpr ⟨y_nw_6, List.forall_mem_cons.mpr ⟨y_nw_7, List.forall_mem_cons.mpr ⟨y_nw_8, List.forall_mem_cons.mpr ⟨y_nw_9, List.forall_mem_cons.mpr ⟨y_nw_10, List.forall_mem_cons.mpr ⟨y_nw_11, List.forall_mem_cons.mpr ⟨y_nw_12, List.forall_mem_cons.mpr ⟨y_nw_13, List.forall_mem_cons.mpr ⟨y_nw_14, List.forall_mem_cons.mpr ⟨y_nw_15, List.forall_mem_cons.mpr ⟨y_nw_16, fun _ h => absurd h List.not_mem_nil⟩⟩⟩⟩⟩⟩⟩⟩⟩⟩⟩⟩⟩⟩⟩⟩⟩
def y_ciok (e : Nat × Nat × Int32) : Prop := Cond.constant (y_own e.1) e.2.1 e.2.2 ∈ lw_tbl
theorem y_ci_0 : y_ciok (4, 11, 115200) := y_w 164 (by decide +kernel)
theorem y_ci_1 : y_ciok (10, 11, 32768) := y_w 304 (by decide +kernel)
theorem y_ci_2 : y_ciok (9, 79, 999999999) := y_w 462 (by decide +kernel)
theorem y_ci_3 : y_ciok (8, 116, 999999999) := y_w 773 (by decide +kernel)
theorem y_ci_4 : y_ciok (8, 135, 999999) := y_w 789 (by decide +kernel)
theorem y_ci_5 : y_ciok (11, 209, 999999999) := y_w 973 (by decide +kernel)
theorem y_ci_6 : y_ciok (12, 54, 100100) := y_w 1303 (by decide +kernel)
theorem y_ci_7 : y_ciok (12, 108, 50052) := y_w 1304 (by decide +kernel)
theorem y_ci_8 : y_ciok (12, 200, 999999999) := y_w 1541 (by decide +kernel)
theorem y_ci_9 : y_ciok (12, 186, 999999) := y_w 1556 (by decide +kernel)
set_option maxRecDepth 100000 in
theorem y_ci : ∀ e ∈ t_ci, y_ciok e := List.forall_mem_cons.mpr ⟨y_ci_0, List.forall_mem_cons.mpr ⟨y_ci_1, List.forall_mem_cons.mpr ⟨y_ci_2, List.forall_mem_cons.mpr ⟨y_ci_3, List.forall_mem_cons.mpr ⟨y_ci_4, List.forall_mem_cons.mpr ⟨y_ci_5, List.forall_mem_cons.mpr ⟨y_ci_6, List.forall_mem_cons.mpr ⟨y_ci_7, List.forall_mem_cons.mpr ⟨y_ci_8, List.forall_mem_cons.mpr ⟨y_ci_9, fun _ h => absurd h List.not_mem_nil⟩⟩⟩⟩⟩⟩⟩⟩⟩⟩
def y_cjok (e : Nat × Nat × Int64) : Prop := Cond.constantLong (y_own e.1) e.2.1 e.2.2 ∈ lw_tbl
theorem y_cj_0 : y_cjok (8, 142, 999999999) := y_w 756 (by decide +kernel)
theorem y_cj_1 : y_cjok (8, 144, 10) := y_w 757 (by decide +kernel)
theorem y_cj_2 : y_cjok (8, 146, 48) := y_w 758 (by decide +kernel)
theorem y_cj_3 : y_cjok (2, 67, 1000000000) := y_w 1145 (by decide +kernel)
theorem y_cj_4 : y_cjok (11, 334, 31) := y_w 1284 (by decide +kernel)
theorem y_cj_5 : y_cjok (12, 159, 999999999) := y_w 1521 (by decide +kernel)
theorem y_cj_6 : y_cjok (12, 161, 10) := y_w 1522 (by decide +kernel)
theorem y_cj_7 : y_cjok (12, 163, 48) := y_w 1523 (by decide +kernel)
theorem y_cj_8 : y_cjok (12, 263, -9223372036854775808) := y_w 1631 (by decide +kernel)
theorem y_cj_9 : y_cjok (12, 362, 1000000000) := y_w 1751 (by decide +kernel)
theorem y_cj_10 : y_cjok (12, 385, 31) := y_w 1808 (by decide +kernel)
set_option maxRecDepth 100000 in
theorem y_cj : ∀ e ∈ t_cj, y_cjok e := List.forall_mem_cons.mpr ⟨y_cj_0, List.forall_mem_cons.mpr ⟨y_cj_1, List.forall_mem_cons.mpr ⟨y_cj_2, List.forall_mem_cons.mpr ⟨y_cj_3, List.forall_mem_cons.mpr ⟨y_cj_4, List.forall_mem_cons.mpr ⟨y_cj_5, List.forall_mem_cons.mpr ⟨y_cj_6, List.forall_mem_cons.mpr ⟨y_cj_7, List.forall_mem_cons.mpr ⟨y_cj_8, List.forall_mem_cons.mpr ⟨y_cj_9, List.forall_mem_cons.mpr ⟨y_cj_10, fun _ h => absurd h List.not_mem_nil⟩⟩⟩⟩⟩⟩⟩⟩⟩⟩⟩
def y_exn (k : Nat) : String := if k = 0 then "java/util/NoSuchElementException" else "java/lang/IllegalArgumentException"
def y_exok (e : Nat × Nat × Nat) : Prop := Cond.classLink (y_own e.1) e.2.1 (y_exn e.2.2) ∈ lw_tbl
theorem y_ex_0 : y_exok (13, 13, 1) := y_w 588 (by decide +kernel)
theorem y_ex_1 : y_exok (11, 351, 1) := y_w 597 (by decide +kernel)
theorem y_ex_2 : y_exok (13, 25, 0) := y_w 878 (by decide +kernel)
theorem y_ex_3 : y_exok (11, 342, 0) := y_w 895 (by decide +kernel)
set_option maxRecDepth 100000 in
theorem y_ex : ∀ e ∈ t_ex, y_exok e := List.forall_mem_cons.mpr ⟨y_ex_0, List.forall_mem_cons.mpr ⟨y_ex_1, List.forall_mem_cons.mpr ⟨y_ex_2, List.forall_mem_cons.mpr ⟨y_ex_3, fun _ h => absurd h List.not_mem_nil⟩⟩⟩⟩
def y_txt (j : Nat) : String := (["an argument out of its range", "language", "say", "to", "every", "as", "no such language, rule, item, cause or stretch", "no such rule", "a text that can't be heard", "language", "say", "to", "every", "as"] : List String).getD j ""
def y_srok (e : Nat × Nat × List Nat) : Prop := ∃ t, Cond.stringRef (y_own e.1) e.2.1 t ∈ lw_tbl
theorem y_sr_0 : Cond.stringRef (y_own 11) 353 (y_txt 0) ∈ lw_tbl := y_w 637 (by decide +kernel)
theorem y_sr_1 : Cond.stringRef (y_own 8) 95 (y_txt 1) ∈ lw_tbl := y_w 677 (by decide +kernel)
theorem y_sr_2 : Cond.stringRef (y_own 8) 111 (y_txt 2) ∈ lw_tbl := y_w 768 (by decide +kernel)
theorem y_sr_3 : Cond.stringRef (y_own 8) 117 (y_txt 3) ∈ lw_tbl := y_w 774 (by decide +kernel)
theorem y_sr_4 : Cond.stringRef (y_own 8) 119 (y_txt 4) ∈ lw_tbl := y_w 775 (by decide +kernel)
theorem y_sr_5 : Cond.stringRef (y_own 8) 121 (y_txt 5) ∈ lw_tbl := y_w 776 (by decide +kernel)
theorem y_sr_6 : Cond.stringRef (y_own 11) 349 (y_txt 6) ∈ lw_tbl := y_w 904 (by decide +kernel)
theorem y_sr_7 : Cond.stringRef (y_own 11) 344 (y_txt 7) ∈ lw_tbl := y_w 912 (by decide +kernel)
theorem y_sr_8 : Cond.stringRef (y_own 11) 360 (y_txt 8) ∈ lw_tbl := y_w 1135 (by decide +kernel)
theorem y_sr_9 : Cond.stringRef (y_own 12) 219 (y_txt 9) ∈ lw_tbl := y_w 1480 (by decide +kernel)
theorem y_sr_10 : Cond.stringRef (y_own 12) 198 (y_txt 10) ∈ lw_tbl := y_w 1540 (by decide +kernel)
theorem y_sr_11 : Cond.stringRef (y_own 12) 201 (y_txt 11) ∈ lw_tbl := y_w 1542 (by decide +kernel)
theorem y_sr_12 : Cond.stringRef (y_own 12) 203 (y_txt 12) ∈ lw_tbl := y_w 1543 (by decide +kernel)
theorem y_sr_13 : Cond.stringRef (y_own 12) 205 (y_txt 13) ∈ lw_tbl := y_w 1544 (by decide +kernel)
def y_mun (t : Nat) : String := if t = 7 then "[[[I" else if t = 10 then "[[[[B" else if t = 6 then "[[I" else if t = 0 then "[I" else "[J"
def y_muok (e : Nat × Nat × Nat) : Prop := Cond.classLink (y_own e.1) e.2.1 (y_mun e.2.2) ∈ lw_tbl
theorem y_mu_0 : y_muok (14, 317, 0) := y_w 810 (by decide +kernel)
theorem y_mu_1 : y_muok (14, 320, 1) := y_w 820 (by decide +kernel)
theorem y_mu_2 : y_muok (12, 26, 7) := y_w 1295 (by decide +kernel)
theorem y_mu_3 : y_muok (12, 31, 10) := y_w 1298 (by decide +kernel)
theorem y_mu_4 : y_muok (12, 46, 6) := y_w 1302 (by decide +kernel)
set_option maxRecDepth 100000 in
theorem y_mu : ∀ e ∈ t_mu, y_muok e := List.forall_mem_cons.mpr ⟨y_mu_0, List.forall_mem_cons.mpr ⟨y_mu_1, List.forall_mem_cons.mpr ⟨y_mu_2, List.forall_mem_cons.mpr ⟨y_mu_3, List.forall_mem_cons.mpr ⟨y_mu_4, fun _ h => absurd h List.not_mem_nil⟩⟩⟩⟩⟩
def y_jdn (k : Nat) : MethodName := if k = 1 then Lib.Math.min.name else if k = 2 then Lib.Math.max.name else if k = 3 then Lib.MathLoose.min_long.x else if k = 7 then arraycopyName else if k = 8 then yJ0_length_8abf5 else if k = 9 then yJ0_charAt_5068e else Lib.objectInit
def y_jdok (e : Nat × Nat × Nat) : Prop := if e.2.2 = 11 then Cond.methodLink (y_own e.1) e.2.1 ⟨if e.2.1 = 316 then "[I" else "[J", "clone", "()Ljava/lang/Object;"⟩ ∈ lw_tbl else Cond.methodLink (y_own e.1) e.2.1 (y_jdn e.2.2) ∈ lw_tbl
theorem y_jd_0 : y_jdok (11, 3, 10) := by
  show Cond.methodLink _ _ _ ∈ lw_tbl
  exact y_w 31 (by decide +kernel)
theorem y_jd_1 : y_jdok (7, 3, 10) := by
  show Cond.methodLink _ _ _ ∈ lw_tbl
  exact y_w 39 (by decide +kernel)
theorem y_jd_2 : y_jdok (0, 3, 10) := by
  show Cond.methodLink _ _ _ ∈ lw_tbl
  exact y_w 55 (by decide +kernel)
theorem y_jd_3 : y_jdok (3, 3, 10) := by
  show Cond.methodLink _ _ _ ∈ lw_tbl
  exact y_w 75 (by decide +kernel)
theorem y_jd_4 : y_jdok (8, 3, 10) := by
  show Cond.methodLink _ _ _ ∈ lw_tbl
  exact y_w 95 (by decide +kernel)
theorem y_jd_5 : y_jdok (5, 3, 10) := by
  show Cond.methodLink _ _ _ ∈ lw_tbl
  exact y_w 151 (by decide +kernel)
theorem y_jd_6 : y_jdok (9, 3, 10) := by
  show Cond.methodLink _ _ _ ∈ lw_tbl
  exact y_w 157 (by decide +kernel)
theorem y_jd_7 : y_jdok (4, 5, 10) := by
  show Cond.methodLink _ _ _ ∈ lw_tbl
  exact y_w 163 (by decide +kernel)
theorem y_jd_8 : y_jdok (1, 3, 10) := by
  show Cond.methodLink _ _ _ ∈ lw_tbl
  exact y_w 200 (by decide +kernel)
theorem y_jd_9 : y_jdok (10, 3, 10) := by
  show Cond.methodLink _ _ _ ∈ lw_tbl
  exact y_w 303 (by decide +kernel)
theorem y_jd_10 : y_jdok (2, 3, 10) := by
  show Cond.methodLink _ _ _ ∈ lw_tbl
  exact y_w 327 (by decide +kernel)
theorem y_jd_11 : y_jdok (3, 39, 2) := by
  show Cond.methodLink _ _ _ ∈ lw_tbl
  exact y_w 417 (by decide +kernel)
theorem y_jd_12 : y_jdok (9, 161, 2) := by
  show Cond.methodLink _ _ _ ∈ lw_tbl
  exact y_w 546 (by decide +kernel)
theorem y_jd_13 : y_jdok (11, 362, 7) := by
  show Cond.methodLink _ _ _ ∈ lw_tbl
  exact y_w 550 (by decide +kernel)
theorem y_jd_14 : y_jdok (4, 42, 1) := by
  show Cond.methodLink _ _ _ ∈ lw_tbl
  exact y_w 574 (by decide +kernel)
theorem y_jd_15 : y_jdok (11, 368, 1) := by
  show Cond.methodLink _ _ _ ∈ lw_tbl
  exact y_w 580 (by decide +kernel)
theorem y_jd_16 : y_jdok (8, 60, 1) := by
  show Cond.methodLink _ _ _ ∈ lw_tbl
  exact y_w 671 (by decide +kernel)
theorem y_jd_17 : y_jdok (8, 66, 2) := by
  show Cond.methodLink _ _ _ ∈ lw_tbl
  exact y_w 672 (by decide +kernel)
theorem y_jd_18 : y_jdok (8, 148, 8) := by
  show Cond.methodLink _ _ _ ∈ lw_tbl
  exact y_w 697 (by decide +kernel)
theorem y_jd_19 : y_jdok (8, 152, 9) := by
  show Cond.methodLink _ _ _ ∈ lw_tbl
  exact y_w 707 (by decide +kernel)
theorem y_jd_20 : y_jdok (6, 3, 10) := by
  show Cond.methodLink _ _ _ ∈ lw_tbl
  exact y_w 798 (by decide +kernel)
theorem y_jd_21 : y_jdok (6, 24, 1) := by
  show Cond.methodLink _ _ _ ∈ lw_tbl
  exact y_w 799 (by decide +kernel)
theorem y_jd_22 : y_jdok (6, 30, 2) := by
  show Cond.methodLink _ _ _ ∈ lw_tbl
  exact y_w 800 (by decide +kernel)
theorem y_jd_23 : y_jdok (14, 316, 11) := by
  show Cond.methodLink _ _ _ ∈ lw_tbl
  exact y_w 804 (by decide +kernel)
theorem y_jd_24 : y_jdok (14, 304, 1) := by
  show Cond.methodLink _ _ _ ∈ lw_tbl
  exact y_w 811 (by decide +kernel)
theorem y_jd_25 : y_jdok (14, 150, 7) := by
  show Cond.methodLink _ _ _ ∈ lw_tbl
  exact y_w 812 (by decide +kernel)
theorem y_jd_26 : y_jdok (14, 319, 11) := by
  show Cond.methodLink _ _ _ ∈ lw_tbl
  exact y_w 816 (by decide +kernel)
theorem y_jd_27 : y_jdok (3, 33, 1) := by
  show Cond.methodLink _ _ _ ∈ lw_tbl
  exact y_w 851 (by decide +kernel)
theorem y_jd_28 : y_jdok (5, 57, 1) := by
  show Cond.methodLink _ _ _ ∈ lw_tbl
  exact y_w 1059 (by decide +kernel)
theorem y_jd_29 : y_jdok (5, 67, 7) := by
  show Cond.methodLink _ _ _ ∈ lw_tbl
  exact y_w 1071 (by decide +kernel)
theorem y_jd_30 : y_jdok (2, 69, 3) := by
  show Cond.methodLink _ _ _ ∈ lw_tbl
  exact y_w 1146 (by decide +kernel)
theorem y_jd_31 : y_jdok (10, 66, 1) := by
  show Cond.methodLink _ _ _ ∈ lw_tbl
  exact y_w 1240 (by decide +kernel)
theorem y_jd_32 : y_jdok (12, 3, 10) := by
  show Cond.methodLink _ _ _ ∈ lw_tbl
  exact y_w 1294 (by decide +kernel)
theorem y_jd_33 : y_jdok (12, 171, 8) := by
  show Cond.methodLink _ _ _ ∈ lw_tbl
  exact y_w 1508 (by decide +kernel)
theorem y_jd_34 : y_jdok (12, 175, 9) := by
  show Cond.methodLink _ _ _ ∈ lw_tbl
  exact y_w 1509 (by decide +kernel)
set_option maxRecDepth 100000 in
theorem y_jd : ∀ e ∈ t_jd, y_jdok e := List.forall_mem_cons.mpr ⟨y_jd_0, List.forall_mem_cons.mpr ⟨y_jd_1, List.forall_mem_cons.mpr ⟨y_jd_2, List.forall_mem_cons.mpr ⟨y_jd_3, List.forall_mem_cons.mpr ⟨y_jd_4, List.forall_mem_cons.mpr ⟨y_jd_5, List.forall_mem_cons.mpr ⟨y_jd_6, List.forall_mem_cons.mpr ⟨y_jd_7, List.forall_mem_cons.mpr ⟨y_jd_8, List.forall_mem_cons.mpr ⟨y_jd_9, List.forall_mem_cons.mpr ⟨y_jd_10, List.forall_mem_cons.mpr ⟨y_jd_11, List.forall_mem_cons.mpr ⟨y_jd_12, List.forall_mem_cons.mpr ⟨y_jd_13, List.forall_mem_cons.mpr ⟨y_jd_14, List.forall_mem_cons.mpr ⟨y_jd_15, List.forall_mem_cons.mpr ⟨y_jd_16, List.forall_mem_cons.mpr ⟨y_jd_17, List.forall_mem_cons.mpr ⟨y_jd_18, List.forall_mem_cons.mpr ⟨y_jd_19, List.forall_mem_cons.mpr ⟨y_jd_20, List.forall_mem_cons.mpr ⟨y_jd_21, List.forall_mem_cons.mpr ⟨y_jd_22, List.forall_mem_cons.mpr ⟨y_jd_23, List.forall_mem_cons.mpr ⟨y_jd_24, List.forall_mem_cons.mpr ⟨y_jd_25, List.forall_mem_cons.mpr ⟨y_jd_26, List.forall_mem_cons.mpr ⟨y_jd_27, List.forall_mem_cons.mpr ⟨y_jd_28, List.forall_mem_cons.mpr ⟨y_jd_29, List.forall_mem_cons.mpr ⟨y_jd_30, List.forall_mem_cons.mpr ⟨y_jd_31, List.forall_mem_cons.mpr ⟨y_jd_32, List.forall_mem_cons.mpr ⟨y_jd_33, List.forall_mem_cons.mpr ⟨y_jd_34, fun _ h => absurd h List.not_mem_nil⟩⟩⟩⟩⟩⟩⟩⟩⟩⟩⟩⟩⟩⟩⟩⟩⟩⟩⟩⟩⟩⟩⟩⟩⟩⟩⟩⟩⟩⟩⟩⟩⟩⟩⟩
