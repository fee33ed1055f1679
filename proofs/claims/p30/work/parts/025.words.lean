def lw_g : List Cond := lw_tbl.filter goodWord
theorem lw_in {w : Cond} (i : Nat) (h : lw_tbl[i]? = some w) (hg : goodWord w = true) : w ∈ lw_g := List.mem_filter.mpr ⟨List.mem_of_getElem? h, hg⟩
theorem lw_in1 {w : Cond} (i : Nat) (h : tables_1_1[i]? = some w) (hg : goodWord w = true) : w ∈ lw_g := List.mem_filter.mpr ⟨List.mem_append_right _ (List.mem_append_left _ (List.mem_of_getElem? h)), hg⟩
theorem lw_in2 {w : Cond} (i : Nat) (h : tables_1_2[i]? = some w) (hg : goodWord w = true) : w ∈ lw_g := List.mem_filter.mpr ⟨List.mem_append_right _ (List.mem_append_right _ (List.mem_append_left _ (List.mem_of_getElem? h))), hg⟩
theorem lw_in3 {w : Cond} (i : Nat) (h : tables_1_3[i]? = some w) (hg : goodWord w = true) : w ∈ lw_g := List.mem_filter.mpr ⟨List.mem_append_right _ (List.mem_append_right _ (List.mem_append_right _ (List.mem_append_left _ (List.mem_of_getElem? h)))), hg⟩
theorem lw_in4 {w : Cond} (i : Nat) (h : tables_1_4[i]? = some w) (hg : goodWord w = true) : w ∈ lw_g := List.mem_filter.mpr ⟨List.mem_append_right _ (List.mem_append_right _ (List.mem_append_right _ (List.mem_append_right _ (List.mem_append_left _ (List.mem_of_getElem? h))))), hg⟩
theorem lw_in5 {w : Cond} (i : Nat) (h : tables_1_5[i]? = some w) (hg : goodWord w = true) : w ∈ lw_g := List.mem_filter.mpr ⟨List.mem_append_right _ (List.mem_append_right _ (List.mem_append_right _ (List.mem_append_right _ (List.mem_append_right _ ((List.mem_of_getElem? h)))))), hg⟩
theorem lw_in0 {w : Cond} (i : Nat) (h : (k2_sels lw_privs)[i]? = some w) (hg : goodWord w = true) : w ∈ lw_g := List.mem_filter.mpr ⟨List.mem_append_left _ (List.mem_of_getElem? h), hg⟩
theorem lw_good : ∀ w ∈ lw_g, (w.onTables && w.keeps) = true ∨ ∃ ty, w = .arrayClass ty := fun w h => good_of_word (List.mem_filter.mp h).2
def cnm (k : Nat) : String := match k with
  | 0 => RX0
  | 1 => RX1
  | 2 => RX2
  | 3 => RX3
  | 4 => RX4
  | 5 => RX5
  | 6 => RX6
  | 7 => RX7
  | 8 => RX8
  | 9 => RX9
  | _ => RX10
def cT (k : Nat) : u_T := match k with
  | 0 => TX0
  | 1 => TX1
  | 2 => TX2
  | 3 => TX3
  | 4 => TX4
  | 5 => TX5
  | 6 => TX6
  | 7 => TX7
  | 8 => TX8
  | 9 => TX9
  | _ => TX10
def cty (k : Nat) : Nat → FieldType := match k with
  | 0 => tyX0
  | 1 => tyX1
  | 2 => tyX2
  | 3 => tyX3
  | 4 => tyX4
  | 5 => tyX5
  | 6 => tyX6
  | 7 => tyX7
  | 8 => tyX8
  | 9 => tyX9
  | _ => tyX10
def cN (k : Nat) : Nat := match k with
  | 0 => 18
  | 1 => 6
  | 2 => 2
  | 3 => 14
  | 4 => 9
  | 5 => 3
  | 6 => 6
  | 7 => 13
  | 8 => 3
  | 9 => 4
  | _ => 3
theorem cl_at {k : Nat} (h : k < 11) : vwCl[k]? = some (cnm k, cT k, cN k) := by
  rcases (show k = 0 ∨ k = 1 ∨ k = 2 ∨ k = 3 ∨ k = 4 ∨ k = 5 ∨ k = 6 ∨ k = 7 ∨ k = 8 ∨ k = 9 ∨ k = 10 by omega) with rfl | rfl | rfl | rfl | rfl | rfl | rfl | rfl | rfl | rfl | rfl | rfl <;> rfl
theorem cl_nm {k : Nat} (h : k < 11) : ∀ a, a < cN k → ∀ b, b < cN k → a ≠ b → (cT k a).2.1 ≠ (cT k b).2.1 := by
  rcases (show k = 0 ∨ k = 1 ∨ k = 2 ∨ k = 3 ∨ k = 4 ∨ k = 5 ∨ k = 6 ∨ k = 7 ∨ k = 8 ∨ k = 9 ∨ k = 10 by omega) with rfl | rfl | rfl | rfl | rfl | rfl | rfl | rfl | rfl | rfl | rfl | rfl
  · exact nmX0
  · exact nmX1
  · exact nmX2
  · exact nmX3
  · exact nmX4
  · exact nmX5
  · exact nmX6
  · exact nmX7
  · exact nmX8
  · exact nmX9
  · exact nmX10
theorem cl_ty {k : Nat} (h : k < 11) : ∀ j, j < cN k → parseFieldDescriptor (cT k j).2.2.1 = some (cty k j) := by
  rcases (show k = 0 ∨ k = 1 ∨ k = 2 ∨ k = 3 ∨ k = 4 ∨ k = 5 ∨ k = 6 ∨ k = 7 ∨ k = 8 ∨ k = 9 ∨ k = 10 by omega) with rfl | rfl | rfl | rfl | rfl | rfl | rfl | rfl | rfl | rfl | rfl | rfl
  · exact tyX0_ok
  · exact tyX1_ok
  · exact tyX2_ok
  · exact tyX3_ok
  · exact tyX4_ok
  · exact tyX5_ok
  · exact tyX6_ok
  · exact tyX7_ok
  · exact tyX8_ok
  · exact tyX9_ok
  · exact tyX10_ok
theorem kl_0_0 : u_lay RX0 TX0 0 ∈ lw_g := lw_in1 138 (by decide +kernel) rfl
theorem kl_0_1 : u_lay RX0 TX0 1 ∈ lw_g := lw_in1 140 (by decide +kernel) rfl
theorem kl_0_2 : u_lay RX0 TX0 2 ∈ lw_g := lw_in1 142 (by decide +kernel) rfl
theorem kl_0_3 : u_lay RX0 TX0 3 ∈ lw_g := lw_in1 144 (by decide +kernel) rfl
theorem kl_0_4 : u_lay RX0 TX0 4 ∈ lw_g := lw_in1 146 (by decide +kernel) rfl
theorem kl_0_5 : u_lay RX0 TX0 5 ∈ lw_g := lw_in1 148 (by decide +kernel) rfl
theorem kl_0_6 : u_lay RX0 TX0 6 ∈ lw_g := lw_in1 150 (by decide +kernel) rfl
theorem kl_0_7 : u_lay RX0 TX0 7 ∈ lw_g := lw_in1 152 (by decide +kernel) rfl
theorem kl_0_8 : u_lay RX0 TX0 8 ∈ lw_g := lw_in1 154 (by decide +kernel) rfl
theorem kl_0_9 : u_lay RX0 TX0 9 ∈ lw_g := lw_in1 156 (by decide +kernel) rfl
theorem kl_0_10 : u_lay RX0 TX0 10 ∈ lw_g := lw_in1 158 (by decide +kernel) rfl
theorem kl_0_11 : u_lay RX0 TX0 11 ∈ lw_g := lw_in1 160 (by decide +kernel) rfl
theorem kl_0_12 : u_lay RX0 TX0 12 ∈ lw_g := lw_in1 162 (by decide +kernel) rfl
theorem kl_0_13 : u_lay RX0 TX0 13 ∈ lw_g := lw_in1 164 (by decide +kernel) rfl
theorem kl_0_14 : u_lay RX0 TX0 14 ∈ lw_g := lw_in1 166 (by decide +kernel) rfl
theorem kl_0_15 : u_lay RX0 TX0 15 ∈ lw_g := lw_in1 168 (by decide +kernel) rfl
theorem kl_0_16 : u_lay RX0 TX0 16 ∈ lw_g := lw_in1 170 (by decide +kernel) rfl
theorem kl_0_17 : u_lay RX0 TX0 17 ∈ lw_g := lw_in1 172 (by decide +kernel) rfl
theorem kl_1_0 : u_lay RX1 TX1 0 ∈ lw_g := lw_in2 205 (by decide +kernel) rfl
theorem kl_1_1 : u_lay RX1 TX1 1 ∈ lw_g := lw_in2 207 (by decide +kernel) rfl
theorem kl_1_2 : u_lay RX1 TX1 2 ∈ lw_g := lw_in2 209 (by decide +kernel) rfl
theorem kl_1_3 : u_lay RX1 TX1 3 ∈ lw_g := lw_in2 211 (by decide +kernel) rfl
theorem kl_1_4 : u_lay RX1 TX1 4 ∈ lw_g := lw_in2 213 (by decide +kernel) rfl
theorem kl_1_5 : u_lay RX1 TX1 5 ∈ lw_g := lw_in2 215 (by decide +kernel) rfl
theorem kl_2_0 : u_lay RX2 TX2 0 ∈ lw_g := lw_in2 85 (by decide +kernel) rfl
theorem kl_2_1 : u_lay RX2 TX2 1 ∈ lw_g := lw_in2 87 (by decide +kernel) rfl
theorem kl_3_0 : u_lay RX3 TX3 0 ∈ lw_g := lw_in1 202 (by decide +kernel) rfl
theorem kl_3_1 : u_lay RX3 TX3 1 ∈ lw_g := lw_in1 204 (by decide +kernel) rfl
theorem kl_3_2 : u_lay RX3 TX3 2 ∈ lw_g := lw_in1 206 (by decide +kernel) rfl
theorem kl_3_3 : u_lay RX3 TX3 3 ∈ lw_g := lw_in1 208 (by decide +kernel) rfl
theorem kl_3_4 : u_lay RX3 TX3 4 ∈ lw_g := lw_in1 210 (by decide +kernel) rfl
theorem kl_3_5 : u_lay RX3 TX3 5 ∈ lw_g := lw_in1 212 (by decide +kernel) rfl
theorem kl_3_6 : u_lay RX3 TX3 6 ∈ lw_g := lw_in1 214 (by decide +kernel) rfl
theorem kl_3_7 : u_lay RX3 TX3 7 ∈ lw_g := lw_in1 216 (by decide +kernel) rfl
theorem kl_3_8 : u_lay RX3 TX3 8 ∈ lw_g := lw_in1 218 (by decide +kernel) rfl
theorem kl_3_9 : u_lay RX3 TX3 9 ∈ lw_g := lw_in1 220 (by decide +kernel) rfl
theorem kl_3_10 : u_lay RX3 TX3 10 ∈ lw_g := lw_in1 222 (by decide +kernel) rfl
theorem kl_3_11 : u_lay RX3 TX3 11 ∈ lw_g := lw_in1 224 (by decide +kernel) rfl
theorem kl_3_12 : u_lay RX3 TX3 12 ∈ lw_g := lw_in1 226 (by decide +kernel) rfl
theorem kl_3_13 : u_lay RX3 TX3 13 ∈ lw_g := lw_in1 228 (by decide +kernel) rfl
theorem kl_4_0 : u_lay RX4 TX4 0 ∈ lw_g := lw_in2 3 (by decide +kernel) rfl
theorem kl_4_1 : u_lay RX4 TX4 1 ∈ lw_g := lw_in2 5 (by decide +kernel) rfl
theorem kl_4_2 : u_lay RX4 TX4 2 ∈ lw_g := lw_in2 7 (by decide +kernel) rfl
theorem kl_4_3 : u_lay RX4 TX4 3 ∈ lw_g := lw_in2 9 (by decide +kernel) rfl
theorem kl_4_4 : u_lay RX4 TX4 4 ∈ lw_g := lw_in2 11 (by decide +kernel) rfl
theorem kl_4_5 : u_lay RX4 TX4 5 ∈ lw_g := lw_in2 13 (by decide +kernel) rfl
theorem kl_4_6 : u_lay RX4 TX4 6 ∈ lw_g := lw_in2 15 (by decide +kernel) rfl
theorem kl_4_7 : u_lay RX4 TX4 7 ∈ lw_g := lw_in2 17 (by decide +kernel) rfl
theorem kl_4_8 : u_lay RX4 TX4 8 ∈ lw_g := lw_in2 19 (by decide +kernel) rfl
theorem kl_5_0 : u_lay RX5 TX5 0 ∈ lw_g := lw_in1 37 (by decide +kernel) rfl
theorem kl_5_1 : u_lay RX5 TX5 1 ∈ lw_g := lw_in1 39 (by decide +kernel) rfl
theorem kl_5_2 : u_lay RX5 TX5 2 ∈ lw_g := lw_in1 41 (by decide +kernel) rfl
theorem kl_6_0 : u_lay RX6 TX6 0 ∈ lw_g := lw_in1 81 (by decide +kernel) rfl
theorem kl_6_1 : u_lay RX6 TX6 1 ∈ lw_g := lw_in1 83 (by decide +kernel) rfl
theorem kl_6_2 : u_lay RX6 TX6 2 ∈ lw_g := lw_in1 85 (by decide +kernel) rfl
theorem kl_6_3 : u_lay RX6 TX6 3 ∈ lw_g := lw_in1 87 (by decide +kernel) rfl
theorem kl_6_4 : u_lay RX6 TX6 4 ∈ lw_g := lw_in1 89 (by decide +kernel) rfl
theorem kl_6_5 : u_lay RX6 TX6 5 ∈ lw_g := lw_in1 91 (by decide +kernel) rfl
theorem kl_7_0 : u_lay RX7 TX7 0 ∈ lw_g := lw_in2 121 (by decide +kernel) rfl
theorem kl_7_1 : u_lay RX7 TX7 1 ∈ lw_g := lw_in2 123 (by decide +kernel) rfl
theorem kl_7_2 : u_lay RX7 TX7 2 ∈ lw_g := lw_in2 125 (by decide +kernel) rfl
theorem kl_7_3 : u_lay RX7 TX7 3 ∈ lw_g := lw_in2 127 (by decide +kernel) rfl
theorem kl_7_4 : u_lay RX7 TX7 4 ∈ lw_g := lw_in2 129 (by decide +kernel) rfl
theorem kl_7_5 : u_lay RX7 TX7 5 ∈ lw_g := lw_in2 131 (by decide +kernel) rfl
theorem kl_7_6 : u_lay RX7 TX7 6 ∈ lw_g := lw_in2 133 (by decide +kernel) rfl
theorem kl_7_7 : u_lay RX7 TX7 7 ∈ lw_g := lw_in2 135 (by decide +kernel) rfl
theorem kl_7_8 : u_lay RX7 TX7 8 ∈ lw_g := lw_in2 137 (by decide +kernel) rfl
theorem kl_7_9 : u_lay RX7 TX7 9 ∈ lw_g := lw_in2 139 (by decide +kernel) rfl
theorem kl_7_10 : u_lay RX7 TX7 10 ∈ lw_g := lw_in2 141 (by decide +kernel) rfl
theorem kl_7_11 : u_lay RX7 TX7 11 ∈ lw_g := lw_in2 143 (by decide +kernel) rfl
theorem kl_7_12 : u_lay RX7 TX7 12 ∈ lw_g := lw_in2 145 (by decide +kernel) rfl
theorem kl_8_0 : u_lay RX8 TX8 0 ∈ lw_g := lw_in2 75 (by decide +kernel) rfl
theorem kl_8_1 : u_lay RX8 TX8 1 ∈ lw_g := lw_in2 77 (by decide +kernel) rfl
theorem kl_8_2 : u_lay RX8 TX8 2 ∈ lw_g := lw_in2 79 (by decide +kernel) rfl
theorem kl_9_0 : u_lay RX9 TX9 0 ∈ lw_g := lw_in2 61 (by decide +kernel) rfl
theorem kl_9_1 : u_lay RX9 TX9 1 ∈ lw_g := lw_in2 63 (by decide +kernel) rfl
theorem kl_9_2 : u_lay RX9 TX9 2 ∈ lw_g := lw_in2 65 (by decide +kernel) rfl
theorem kl_9_3 : u_lay RX9 TX9 3 ∈ lw_g := lw_in2 67 (by decide +kernel) rfl
theorem kl_10_0 : u_lay RX10 TX10 0 ∈ lw_g := lw_in2 221 (by decide +kernel) rfl
theorem kl_10_1 : u_lay RX10 TX10 1 ∈ lw_g := lw_in2 223 (by decide +kernel) rfl
theorem kl_10_2 : u_lay RX10 TX10 2 ∈ lw_g := lw_in2 225 (by decide +kernel) rfl
theorem klw_0 : ∀ w ∈ u_ws RX0 TX0 18, w ∈ lw_g := by
  intro w hw
  obtain ⟨j, hj, rfl⟩ := List.mem_map.mp hw
  have hj := List.mem_range.mp hj
  rcases (show j = 0 ∨ j = 1 ∨ j = 2 ∨ j = 3 ∨ j = 4 ∨ j = 5 ∨ j = 6 ∨ j = 7 ∨ j = 8 ∨ j = 9 ∨ j = 10 ∨ j = 11 ∨ j = 12 ∨ j = 13 ∨ j = 14 ∨ j = 15 ∨ j = 16 ∨ j = 17 by omega) with rfl | rfl | rfl | rfl | rfl | rfl | rfl | rfl | rfl | rfl | rfl | rfl | rfl | rfl | rfl | rfl | rfl | rfl
  · exact kl_0_0
  · exact kl_0_1
  · exact kl_0_2
  · exact kl_0_3
  · exact kl_0_4
  · exact kl_0_5
  · exact kl_0_6
  · exact kl_0_7
  · exact kl_0_8
  · exact kl_0_9
  · exact kl_0_10
  · exact kl_0_11
  · exact kl_0_12
  · exact kl_0_13
  · exact kl_0_14
  · exact kl_0_15
  · exact kl_0_16
  · exact kl_0_17
theorem klw_1 : ∀ w ∈ u_ws RX1 TX1 6, w ∈ lw_g := by
  intro w hw
  obtain ⟨j, hj, rfl⟩ := List.mem_map.mp hw
  have hj := List.mem_range.mp hj
  rcases (show j = 0 ∨ j = 1 ∨ j = 2 ∨ j = 3 ∨ j = 4 ∨ j = 5 by omega) with rfl | rfl | rfl | rfl | rfl | rfl
  · exact kl_1_0
  · exact kl_1_1
  · exact kl_1_2
  · exact kl_1_3
  · exact kl_1_4
  · exact kl_1_5
theorem klw_2 : ∀ w ∈ u_ws RX2 TX2 2, w ∈ lw_g := by
  intro w hw
  obtain ⟨j, hj, rfl⟩ := List.mem_map.mp hw
  have hj := List.mem_range.mp hj
  rcases (show j = 0 ∨ j = 1 by omega) with rfl | rfl
  · exact kl_2_0
  · exact kl_2_1
theorem klw_3 : ∀ w ∈ u_ws RX3 TX3 14, w ∈ lw_g := by
  intro w hw
  obtain ⟨j, hj, rfl⟩ := List.mem_map.mp hw
  have hj := List.mem_range.mp hj
  rcases (show j = 0 ∨ j = 1 ∨ j = 2 ∨ j = 3 ∨ j = 4 ∨ j = 5 ∨ j = 6 ∨ j = 7 ∨ j = 8 ∨ j = 9 ∨ j = 10 ∨ j = 11 ∨ j = 12 ∨ j = 13 by omega) with rfl | rfl | rfl | rfl | rfl | rfl | rfl | rfl | rfl | rfl | rfl | rfl | rfl | rfl
  · exact kl_3_0
  · exact kl_3_1
  · exact kl_3_2
  · exact kl_3_3
  · exact kl_3_4
  · exact kl_3_5
  · exact kl_3_6
  · exact kl_3_7
  · exact kl_3_8
  · exact kl_3_9
  · exact kl_3_10
  · exact kl_3_11
  · exact kl_3_12
  · exact kl_3_13
theorem klw_4 : ∀ w ∈ u_ws RX4 TX4 9, w ∈ lw_g := by
  intro w hw
  obtain ⟨j, hj, rfl⟩ := List.mem_map.mp hw
  have hj := List.mem_range.mp hj
  rcases (show j = 0 ∨ j = 1 ∨ j = 2 ∨ j = 3 ∨ j = 4 ∨ j = 5 ∨ j = 6 ∨ j = 7 ∨ j = 8 by omega) with rfl | rfl | rfl | rfl | rfl | rfl | rfl | rfl | rfl
  · exact kl_4_0
  · exact kl_4_1
  · exact kl_4_2
  · exact kl_4_3
  · exact kl_4_4
  · exact kl_4_5
  · exact kl_4_6
  · exact kl_4_7
  · exact kl_4_8
theorem klw_5 : ∀ w ∈ u_ws RX5 TX5 3, w ∈ lw_g := by
  intro w hw
  obtain ⟨j, hj, rfl⟩ := List.mem_map.mp hw
  have hj := List.mem_range.mp hj
  rcases (show j = 0 ∨ j = 1 ∨ j = 2 by omega) with rfl | rfl | rfl
  · exact kl_5_0
  · exact kl_5_1
  · exact kl_5_2
theorem klw_6 : ∀ w ∈ u_ws RX6 TX6 6, w ∈ lw_g := by
  intro w hw
  obtain ⟨j, hj, rfl⟩ := List.mem_map.mp hw
  have hj := List.mem_range.mp hj
  rcases (show j = 0 ∨ j = 1 ∨ j = 2 ∨ j = 3 ∨ j = 4 ∨ j = 5 by omega) with rfl | rfl | rfl | rfl | rfl | rfl
  · exact kl_6_0
  · exact kl_6_1
  · exact kl_6_2
  · exact kl_6_3
  · exact kl_6_4
  · exact kl_6_5
theorem klw_7 : ∀ w ∈ u_ws RX7 TX7 13, w ∈ lw_g := by
  intro w hw
  obtain ⟨j, hj, rfl⟩ := List.mem_map.mp hw
  have hj := List.mem_range.mp hj
  rcases (show j = 0 ∨ j = 1 ∨ j = 2 ∨ j = 3 ∨ j = 4 ∨ j = 5 ∨ j = 6 ∨ j = 7 ∨ j = 8 ∨ j = 9 ∨ j = 10 ∨ j = 11 ∨ j = 12 by omega) with rfl | rfl | rfl | rfl | rfl | rfl | rfl | rfl | rfl | rfl | rfl | rfl | rfl
  · exact kl_7_0
  · exact kl_7_1
  · exact kl_7_2
  · exact kl_7_3
  · exact kl_7_4
  · exact kl_7_5
  · exact kl_7_6
  · exact kl_7_7
  · exact kl_7_8
  · exact kl_7_9
  · exact kl_7_10
  · exact kl_7_11
  · exact kl_7_12
theorem klw_8 : ∀ w ∈ u_ws RX8 TX8 3, w ∈ lw_g := by
  intro w hw
  obtain ⟨j, hj, rfl⟩ := List.mem_map.mp hw
  have hj := List.mem_range.mp hj
  rcases (show j = 0 ∨ j = 1 ∨ j = 2 by omega) with rfl | rfl | rfl
  · exact kl_8_0
  · exact kl_8_1
  · exact kl_8_2
theorem klw_9 : ∀ w ∈ u_ws RX9 TX9 4, w ∈ lw_g := by
  intro w hw
  obtain ⟨j, hj, rfl⟩ := List.mem_map.mp hw
  have hj := List.mem_range.mp hj
  rcases (show j = 0 ∨ j = 1 ∨ j = 2 ∨ j = 3 by omega) with rfl | rfl | rfl | rfl
  · exact kl_9_0
  · exact kl_9_1
  · exact kl_9_2
  · exact kl_9_3
theorem klw_10 : ∀ w ∈ u_ws RX10 TX10 3, w ∈ lw_g := by
  intro w hw
  obtain ⟨j, hj, rfl⟩ := List.mem_map.mp hw
  have hj := List.mem_range.mp hj
  rcases (show j = 0 ∨ j = 1 ∨ j = 2 by omega) with rfl | rfl | rfl
  · exact kl_10_0
  · exact kl_10_1
  · exact kl_10_2
theorem cl_ws {k : Nat} (h : k < 11) : ∀ w ∈ u_ws (cnm k) (cT k) (cN k), w ∈ lw_g := by
  rcases (show k = 0 ∨ k = 1 ∨ k = 2 ∨ k = 3 ∨ k = 4 ∨ k = 5 ∨ k = 6 ∨ k = 7 ∨ k = 8 ∨ k = 9 ∨ k = 10 by omega) with rfl | rfl | rfl | rfl | rfl | rfl | rfl | rfl | rfl | rfl | rfl | rfl
  · exact klw_0
  · exact klw_1
  · exact klw_2
  · exact klw_3
  · exact klw_4
  · exact klw_5
  · exact klw_6
  · exact klw_7
  · exact klw_8
  · exact klw_9
  · exact klw_10
/-- an instruction's field: by its class and its entry -/
def XF (own : String) (idx k j : Nat) : Prop := Cond.fieldLink own idx (cnm k) (cT k j).2.1 (cT k j).2.2.1 ∈ lw_g
def XMV (y : MethodName) (b : ByteArray) (maxL : Nat) (ret : Option FieldType) (n : Nat) : Prop := Cond.instanceMethod y ∈ lw_g ∧ Cond.selects y.cls y y ∈ lw_g ∧ Cond.initialized y.cls ∈ lw_g ∧ Cond.code y b maxL ret ∈ lw_g ∧ y.cls ≠ "java/lang/invoke/MethodHandle" ∧ y.cls ≠ "java/lang/invoke/VarHandle" ∧ (parseMethodDescriptor y.desc).map (fun d => d.parameters.length) = some n
def XMS (y : MethodName) (b : ByteArray) (maxL : Nat) (ret : Option FieldType) (n : Nat) : Prop := Cond.static y ∈ lw_g ∧ Cond.initialized y.cls ∈ lw_g ∧ Cond.code y b maxL ret ∈ lw_g ∧ y.cls ≠ "java/lang/invoke/MethodHandle" ∧ y.cls ≠ "java/lang/invoke/VarHandle" ∧ (parseMethodDescriptor y.desc).map (fun d => d.parameters.length) = some n
def XMI (y : MethodName) (b : ByteArray) (maxL : Nat) (n : Nat) : Prop := Cond.instanceMethod y ∈ lw_g ∧ Cond.initialized y.cls ∈ lw_g ∧ Cond.code y b maxL none ∈ lw_g ∧ y.name = "<init>" ∧ y.cls ≠ "java/lang/invoke/MethodHandle" ∧ y.cls ≠ "java/lang/invoke/VarHandle" ∧ (parseMethodDescriptor y.desc).map (fun d => d.parameters.length) = some n
theorem kn_L_10 : Cond.classLink RL 10 "ForkBridge" ∈ lw_g := lw_in1 20 (by decide +kernel) rfl
theorem kk_L_116 : Cond.methodLink RL 116 yX10_init ∈ lw_g := lw_in1 22 (by decide +kernel) rfl
set_option maxRecDepth 100000 in
theorem kmX10_init : XMI yX10_init cX10_init 3 0 := ⟨lw_in1 23 (by decide +kernel) rfl, lw_in1 1 (by decide +kernel) rfl, lw_in1 24 rfl rfl, by decide +kernel⟩
theorem kk_10_1 : Cond.methodLink RX10 1 ⟨"java/lang/Object", "<init>", "()V"⟩ ∈ lw_g := lw_in1 25 (by decide +kernel) rfl
theorem kn_10_7 : Cond.classLink RX10 7 "ForkBridge$Programs" ∈ lw_g := lw_in1 28 (by decide +kernel) rfl
set_option maxRecDepth 100000 in
theorem kmX5_init : XMI yX5_init cX5_init 1 0 := ⟨lw_in1 31 (by decide +kernel) rfl, lw_in1 2 (by decide +kernel) rfl, lw_in1 32 rfl rfl, by decide +kernel⟩
theorem kk_5_3 : Cond.methodLink RX5 3 ⟨"java/lang/Object", "<init>", "()V"⟩ ∈ lw_g := lw_in1 33 (by decide +kernel) rfl
theorem kf_5_9 : XF RX5 9 5 0 := lw_in1 34 (by decide +kernel) rfl
theorem kf_5_15 : XF RX5 15 5 1 := lw_in1 35 (by decide +kernel) rfl
theorem kf_5_18 : XF RX5 18 5 2 := lw_in1 36 (by decide +kernel) rfl
theorem kn_10_16 : Cond.classLink RX10 16 "ForkBridge$Machine" ∈ lw_g := lw_in1 45 (by decide +kernel) rfl
theorem kk_10_18 : Cond.methodLink RX10 18 yX4_init ∈ lw_g := lw_in1 47 (by decide +kernel) rfl
set_option maxRecDepth 100000 in
theorem kmX4_init : XMI yX4_init cX4_init 3 1 := ⟨lw_in1 48 (by decide +kernel) rfl, lw_in1 3 (by decide +kernel) rfl, lw_in1 49 rfl rfl, by decide +kernel⟩
theorem kk_4_3 : Cond.methodLink RX4 3 ⟨"java/lang/Object", "<init>", "()V"⟩ ∈ lw_g := lw_in1 50 (by decide +kernel) rfl
theorem kn_4_9 : Cond.classLink RX4 9 "ForkBridge$Frame" ∈ lw_g := lw_in1 51 (by decide +kernel) rfl
theorem kn_4_17 : Cond.classLink RX4 17 "ForkBridge$Block" ∈ lw_g := lw_in1 53 (by decide +kernel) rfl
theorem kk_4_19 : Cond.methodLink RX4 19 yX0_init ∈ lw_g := lw_in1 55 (by decide +kernel) rfl
set_option maxRecDepth 100000 in
theorem kmX0_init : XMI yX0_init cX0_init 2 1 := ⟨lw_in1 56 (by decide +kernel) rfl, lw_in1 4 (by decide +kernel) rfl, lw_in1 57 rfl rfl, by decide +kernel⟩
theorem kk_0_3 : Cond.methodLink RX0 3 ⟨"java/lang/Object", "<init>", "()V"⟩ ∈ lw_g := lw_in1 58 (by decide +kernel) rfl
theorem kn_0_9 : Cond.classLink RX0 9 "ForkBridge$State" ∈ lw_g := lw_in1 59 (by decide +kernel) rfl
set_option maxRecDepth 100000 in
theorem kmX6_init : XMI yX6_init cX6_init 1 0 := ⟨lw_in1 62 (by decide +kernel) rfl, lw_in1 5 (by decide +kernel) rfl, lw_in1 63 rfl rfl, by decide +kernel⟩
theorem kk_6_3 : Cond.methodLink RX6 3 ⟨"java/lang/Object", "<init>", "()V"⟩ ∈ lw_g := lw_in1 64 (by decide +kernel) rfl
theorem kf_6_9 : XF RX6 9 6 0 := lw_in1 65 (by decide +kernel) rfl
theorem kf_4_125 : XF RX4 125 6 0 := lw_in1 66 (by decide +kernel) rfl
theorem kf_7_84 : XF RX7 84 6 0 := lw_in1 67 (by decide +kernel) rfl
theorem kf_10_165 : XF RX10 165 6 0 := lw_in1 68 (by decide +kernel) rfl
theorem kf_6_15 : XF RX6 15 6 1 := lw_in1 69 (by decide +kernel) rfl
theorem kf_4_150 : XF RX4 150 6 1 := lw_in1 70 (by decide +kernel) rfl
theorem kf_7_74 : XF RX7 74 6 1 := lw_in1 71 (by decide +kernel) rfl
theorem kf_6_18 : XF RX6 18 6 2 := lw_in1 72 (by decide +kernel) rfl
theorem kf_4_147 : XF RX4 147 6 2 := lw_in1 73 (by decide +kernel) rfl
theorem kf_6_21 : XF RX6 21 6 3 := lw_in1 74 (by decide +kernel) rfl
theorem kf_4_239 : XF RX4 239 6 3 := lw_in1 75 (by decide +kernel) rfl
theorem kf_6_32 : XF RX6 32 6 4 := lw_in1 76 (by decide +kernel) rfl
theorem kf_4_115 : XF RX4 115 6 4 := lw_in1 77 (by decide +kernel) rfl
theorem kf_10_179 : XF RX10 179 6 4 := lw_in1 78 (by decide +kernel) rfl
theorem kf_6_36 : XF RX6 36 6 5 := lw_in1 79 (by decide +kernel) rfl
theorem kf_4_143 : XF RX4 143 6 5 := lw_in1 80 (by decide +kernel) rfl
theorem kf_0_29 : XF RX0 29 0 0 := lw_in1 94 (by decide +kernel) rfl
theorem kf_9_7 : XF RX9 7 0 0 := lw_in1 95 (by decide +kernel) rfl
theorem kf_2_80 : XF RX2 80 0 0 := lw_in1 96 (by decide +kernel) rfl
theorem kf_10_135 : XF RX10 135 0 0 := lw_in1 97 (by decide +kernel) rfl
theorem kf_1_138 : XF RX1 138 0 0 := lw_in1 98 (by decide +kernel) rfl
theorem kf_0_12 : XF RX0 12 0 1 := lw_in1 99 (by decide +kernel) rfl
theorem kf_4_29 : XF RX4 29 0 1 := lw_in1 100 (by decide +kernel) rfl
theorem kf_7_70 : XF RX7 70 0 1 := lw_in1 101 (by decide +kernel) rfl
theorem kf_1_156 : XF RX1 156 0 1 := lw_in1 102 (by decide +kernel) rfl
theorem kf_10_253 : XF RX10 253 0 1 := lw_in1 103 (by decide +kernel) rfl
theorem kf_9_21 : XF RX9 21 0 2 := lw_in1 104 (by decide +kernel) rfl
theorem kf_0_45 : XF RX0 45 0 2 := lw_in1 105 (by decide +kernel) rfl
theorem kf_2_73 : XF RX2 73 0 2 := lw_in1 106 (by decide +kernel) rfl
theorem kf_1_149 : XF RX1 149 0 2 := lw_in1 107 (by decide +kernel) rfl
theorem kf_0_48 : XF RX0 48 0 3 := lw_in1 108 (by decide +kernel) rfl
theorem kf_4_118 : XF RX4 118 0 3 := lw_in1 109 (by decide +kernel) rfl
theorem kf_0_51 : XF RX0 51 0 4 := lw_in1 110 (by decide +kernel) rfl
theorem kf_1_59 : XF RX1 59 0 4 := lw_in1 111 (by decide +kernel) rfl
theorem kf_0_18 : XF RX0 18 0 5 := lw_in1 112 (by decide +kernel) rfl
theorem kf_4_43 : XF RX4 43 0 5 := lw_in1 113 (by decide +kernel) rfl
theorem kf_10_138 : XF RX10 138 0 5 := lw_in1 114 (by decide +kernel) rfl
theorem kf_7_64 : XF RX7 64 0 5 := lw_in1 115 (by decide +kernel) rfl
theorem kf_1_142 : XF RX1 142 0 5 := lw_in1 116 (by decide +kernel) rfl
theorem kf_0_54 : XF RX0 54 0 6 := lw_in1 117 (by decide +kernel) rfl
theorem kf_10_141 : XF RX10 141 0 6 := lw_in1 118 (by decide +kernel) rfl
theorem kf_7_67 : XF RX7 67 0 6 := lw_in1 119 (by decide +kernel) rfl
theorem kf_0_22 : XF RX0 22 0 7 := lw_in1 120 (by decide +kernel) rfl
theorem kf_0_74 : XF RX0 74 0 8 := lw_in1 121 (by decide +kernel) rfl
theorem kf_1_167 : XF RX1 167 0 8 := lw_in1 122 (by decide +kernel) rfl
theorem kf_0_26 : XF RX0 26 0 9 := lw_in1 123 (by decide +kernel) rfl
theorem kf_0_71 : XF RX0 71 0 10 := lw_in1 124 (by decide +kernel) rfl
theorem kf_4_161 : XF RX4 161 0 10 := lw_in1 125 (by decide +kernel) rfl
theorem kf_0_86 : XF RX0 86 0 11 := lw_in1 126 (by decide +kernel) rfl
theorem kf_0_100 : XF RX0 100 0 12 := lw_in1 127 (by decide +kernel) rfl
theorem kf_10_182 : XF RX10 182 0 12 := lw_in1 128 (by decide +kernel) rfl
theorem kf_10_124 : XF RX10 124 0 13 := lw_in1 129 (by decide +kernel) rfl
theorem kf_1_187 : XF RX1 187 0 13 := lw_in1 130 (by decide +kernel) rfl
theorem kf_0_35 : XF RX0 35 0 14 := lw_in1 131 (by decide +kernel) rfl
theorem kf_2_52 : XF RX2 52 0 14 := lw_in1 132 (by decide +kernel) rfl
theorem kf_10_234 : XF RX10 234 0 14 := lw_in1 133 (by decide +kernel) rfl
theorem kf_2_47 : XF RX2 47 0 15 := lw_in1 134 (by decide +kernel) rfl
theorem kf_0_32 : XF RX0 32 0 16 := lw_in1 135 (by decide +kernel) rfl
theorem kf_1_184 : XF RX1 184 0 16 := lw_in1 136 (by decide +kernel) rfl
theorem kf_0_63 : XF RX0 63 0 17 := lw_in1 137 (by decide +kernel) rfl
set_option maxRecDepth 100000 in
theorem kmX3_init : XMI yX3_init cX3_init 1 0 := ⟨lw_in1 177 (by decide +kernel) rfl, lw_in1 6 (by decide +kernel) rfl, lw_in1 178 rfl rfl, by decide +kernel⟩
theorem kk_3_3 : Cond.methodLink RX3 3 ⟨"java/lang/Object", "<init>", "()V"⟩ ∈ lw_g := lw_in1 179 (by decide +kernel) rfl
theorem kn_3_18 : Cond.classLink RX3 18 "ForkBridge$State" ∈ lw_g := lw_in1 180 (by decide +kernel) rfl
theorem kf_3_9 : XF RX3 9 3 0 := lw_in1 182 (by decide +kernel) rfl
theorem kf_3_44 : XF RX3 44 3 1 := lw_in1 183 (by decide +kernel) rfl
theorem kf_3_15 : XF RX3 15 3 2 := lw_in1 184 (by decide +kernel) rfl
theorem kf_3_47 : XF RX3 47 3 3 := lw_in1 185 (by decide +kernel) rfl
theorem kf_3_32 : XF RX3 32 3 4 := lw_in1 186 (by decide +kernel) rfl
theorem kf_4_242 : XF RX4 242 3 4 := lw_in1 187 (by decide +kernel) rfl
theorem kf_3_29 : XF RX3 29 3 5 := lw_in1 188 (by decide +kernel) rfl
theorem kf_3_35 : XF RX3 35 3 6 := lw_in1 189 (by decide +kernel) rfl
theorem kf_3_38 : XF RX3 38 3 7 := lw_in1 190 (by decide +kernel) rfl
theorem kf_3_25 : XF RX3 25 3 8 := lw_in1 191 (by decide +kernel) rfl
theorem kf_4_193 : XF RX4 193 3 8 := lw_in1 192 (by decide +kernel) rfl
theorem kf_3_41 : XF RX3 41 3 9 := lw_in1 193 (by decide +kernel) rfl
theorem kf_4_190 : XF RX4 190 3 9 := lw_in1 194 (by decide +kernel) rfl
theorem kf_4_70 : XF RX4 70 3 10 := lw_in1 195 (by decide +kernel) rfl
theorem kf_3_21 : XF RX3 21 3 11 := lw_in1 196 (by decide +kernel) rfl
theorem kf_4_176 : XF RX4 176 3 11 := lw_in1 197 (by decide +kernel) rfl
theorem kf_3_58 : XF RX3 58 3 12 := lw_in1 198 (by decide +kernel) rfl
theorem kf_4_183 : XF RX4 183 3 12 := lw_in1 199 (by decide +kernel) rfl
theorem kf_3_61 : XF RX3 61 3 13 := lw_in1 200 (by decide +kernel) rfl
theorem kf_4_186 : XF RX4 186 3 13 := lw_in1 201 (by decide +kernel) rfl
theorem kf_4_34 : XF RX4 34 4 0 := lw_in1 231 (by decide +kernel) rfl
theorem kf_4_11 : XF RX4 11 4 1 := lw_in1 232 (by decide +kernel) rfl
theorem kf_4_22 : XF RX4 22 4 2 := lw_in1 233 (by decide +kernel) rfl
theorem kf_1_152 : XF RX1 152 4 2 := lw_in1 234 (by decide +kernel) rfl
theorem kf_4_26 : XF RX4 26 4 3 := lw_in1 235 (by decide +kernel) rfl
theorem kf_4_33 : XF RX4 33 4 4 := lw_in1 236 (by decide +kernel) rfl
theorem kf_4_39 : XF RX4 39 4 5 := lw_in1 237 (by decide +kernel) rfl
theorem kf_4_67 : XF RX4 67 4 6 := lw_in1 238 (by decide +kernel) rfl
theorem kf_4_112 : XF RX4 112 4 7 := lw_in1 239 (by decide +kernel) rfl
theorem kf_1_125 : XF RX1 125 4 7 := lw_in2 0 (by decide +kernel) rfl
theorem kf_4_78 : XF RX4 78 4 8 := lw_in2 1 (by decide +kernel) rfl
theorem kf_1_128 : XF RX1 128 4 8 := lw_in2 2 (by decide +kernel) rfl
theorem kn_10_25 : Cond.classLink RX10 25 "ForkBridge$Chain" ∈ lw_g := lw_in2 22 (by decide +kernel) rfl
theorem kk_10_31 : Cond.methodLink RX10 31 yX1_init ∈ lw_g := lw_in2 25 (by decide +kernel) rfl
set_option maxRecDepth 100000 in
theorem kmX1_init : XMI yX1_init cX1_init 2 0 := ⟨lw_in2 26 (by decide +kernel) rfl, lw_in1 7 (by decide +kernel) rfl, lw_in2 27 rfl rfl, by decide +kernel⟩
theorem kk_1_3 : Cond.methodLink RX1 3 ⟨"java/lang/Object", "<init>", "()V"⟩ ∈ lw_g := lw_in2 28 (by decide +kernel) rfl
theorem kn_1_9 : Cond.classLink RX1 9 "ForkBridge$Block" ∈ lw_g := lw_in2 29 (by decide +kernel) rfl
theorem kn_1_21 : Cond.classLink RX1 21 "ForkBridge$Transaction" ∈ lw_g := lw_in2 31 (by decide +kernel) rfl
theorem kn_1_30 : Cond.classLink RX1 30 "ForkBridge$Finality" ∈ lw_g := lw_in2 33 (by decide +kernel) rfl
theorem kk_1_32 : Cond.methodLink RX1 32 yX2_init ∈ lw_g := lw_in2 35 (by decide +kernel) rfl
set_option maxRecDepth 100000 in
theorem kmX2_init : XMI yX2_init cX2_init 2 0 := ⟨lw_in2 36 (by decide +kernel) rfl, lw_in1 8 (by decide +kernel) rfl, lw_in2 37 rfl rfl, by decide +kernel⟩
theorem kk_2_3 : Cond.methodLink RX2 3 ⟨"java/lang/Object", "<init>", "()V"⟩ ∈ lw_g := lw_in2 38 (by decide +kernel) rfl
theorem kn_2_9 : Cond.classLink RX2 9 "ForkBridge$Validator" ∈ lw_g := lw_in2 39 (by decide +kernel) rfl
theorem kk_2_17 : Cond.methodLink RX2 17 yX8_init ∈ lw_g := lw_in2 42 (by decide +kernel) rfl
set_option maxRecDepth 100000 in
theorem kmX8_init : XMI yX8_init cX8_init 2 0 := ⟨lw_in2 43 (by decide +kernel) rfl, lw_in1 9 (by decide +kernel) rfl, lw_in2 44 rfl rfl, by decide +kernel⟩
theorem kk_8_3 : Cond.methodLink RX8 3 ⟨"java/lang/Object", "<init>", "()V"⟩ ∈ lw_g := lw_in2 45 (by decide +kernel) rfl
theorem kn_8_9 : Cond.classLink RX8 9 "ForkBridge$Vote" ∈ lw_g := lw_in2 46 (by decide +kernel) rfl
set_option maxRecDepth 100000 in
theorem kmX9_init : XMI yX9_init cX9_init 1 0 := ⟨lw_in2 50 (by decide +kernel) rfl, lw_in1 10 (by decide +kernel) rfl, lw_in2 51 rfl rfl, by decide +kernel⟩
theorem kk_9_1 : Cond.methodLink RX9 1 ⟨"java/lang/Object", "<init>", "()V"⟩ ∈ lw_g := lw_in2 52 (by decide +kernel) rfl
theorem kf_9_13 : XF RX9 13 9 0 := lw_in2 53 (by decide +kernel) rfl
theorem kf_2_38 : XF RX2 38 9 0 := lw_in2 54 (by decide +kernel) rfl
theorem kf_8_48 : XF RX8 48 9 0 := lw_in2 55 (by decide +kernel) rfl
theorem kf_9_18 : XF RX9 18 9 1 := lw_in2 56 (by decide +kernel) rfl
theorem kf_2_44 : XF RX2 44 9 1 := lw_in2 57 (by decide +kernel) rfl
theorem kf_8_51 : XF RX8 51 9 1 := lw_in2 58 (by decide +kernel) rfl
theorem kf_9_24 : XF RX9 24 9 2 := lw_in2 59 (by decide +kernel) rfl
theorem kf_9_27 : XF RX9 27 9 3 := lw_in2 60 (by decide +kernel) rfl
theorem kf_8_11 : XF RX8 11 8 0 := lw_in2 70 (by decide +kernel) rfl
theorem kf_8_22 : XF RX8 22 8 1 := lw_in2 71 (by decide +kernel) rfl
theorem kf_10_219 : XF RX10 219 8 1 := lw_in2 72 (by decide +kernel) rfl
theorem kf_8_18 : XF RX8 18 8 2 := lw_in2 73 (by decide +kernel) rfl
theorem kf_10_214 : XF RX10 214 8 2 := lw_in2 74 (by decide +kernel) rfl
theorem kf_2_11 : XF RX2 11 2 0 := lw_in2 82 (by decide +kernel) rfl
theorem kf_1_44 : XF RX1 44 2 1 := lw_in2 83 (by decide +kernel) rfl
theorem kf_2_66 : XF RX2 66 2 1 := lw_in2 84 (by decide +kernel) rfl
theorem kk_1_37 : Cond.methodLink RX1 37 yX0_init ∈ lw_g := lw_in2 90 (by decide +kernel) rfl
theorem kk_1_40 : Cond.methodLink RX1 40 yX7_init ∈ lw_g := lw_in2 92 (by decide +kernel) rfl
set_option maxRecDepth 100000 in
theorem kmX7_init : XMI yX7_init cX7_init 2 1 := ⟨lw_in2 93 (by decide +kernel) rfl, lw_in1 11 (by decide +kernel) rfl, lw_in2 94 rfl rfl, by decide +kernel⟩
theorem kk_7_3 : Cond.methodLink RX7 3 ⟨"java/lang/Object", "<init>", "()V"⟩ ∈ lw_g := lw_in2 95 (by decide +kernel) rfl
theorem kf_7_15 : XF RX7 15 7 0 := lw_in2 96 (by decide +kernel) rfl
theorem kf_1_98 : XF RX1 98 7 0 := lw_in2 97 (by decide +kernel) rfl
theorem kf_7_18 : XF RX7 18 7 1 := lw_in2 98 (by decide +kernel) rfl
theorem kf_4_52 : XF RX4 52 7 1 := lw_in2 99 (by decide +kernel) rfl
theorem kf_7_21 : XF RX7 21 7 2 := lw_in2 100 (by decide +kernel) rfl
theorem kf_4_85 : XF RX4 85 7 2 := lw_in2 101 (by decide +kernel) rfl
theorem kf_7_24 : XF RX7 24 7 3 := lw_in2 102 (by decide +kernel) rfl
theorem kf_4_82 : XF RX4 82 7 3 := lw_in2 103 (by decide +kernel) rfl
theorem kf_7_27 : XF RX7 27 7 4 := lw_in2 104 (by decide +kernel) rfl
theorem kf_4_88 : XF RX4 88 7 4 := lw_in2 105 (by decide +kernel) rfl
theorem kf_7_30 : XF RX7 30 7 5 := lw_in2 106 (by decide +kernel) rfl
theorem kf_4_95 : XF RX4 95 7 5 := lw_in2 107 (by decide +kernel) rfl
theorem kf_7_33 : XF RX7 33 7 6 := lw_in2 108 (by decide +kernel) rfl
theorem kf_4_60 : XF RX4 60 7 6 := lw_in2 109 (by decide +kernel) rfl
theorem kf_7_36 : XF RX7 36 7 7 := lw_in2 110 (by decide +kernel) rfl
theorem kf_7_39 : XF RX7 39 7 8 := lw_in2 111 (by decide +kernel) rfl
theorem kf_1_101 : XF RX1 101 7 8 := lw_in2 112 (by decide +kernel) rfl
theorem kf_7_9 : XF RX7 9 7 9 := lw_in2 113 (by decide +kernel) rfl
theorem kf_4_71 : XF RX4 71 7 9 := lw_in2 114 (by decide +kernel) rfl
theorem kf_7_42 : XF RX7 42 7 10 := lw_in2 115 (by decide +kernel) rfl
theorem kf_4_133 : XF RX4 133 7 10 := lw_in2 116 (by decide +kernel) rfl
theorem kf_7_45 : XF RX7 45 7 11 := lw_in2 117 (by decide +kernel) rfl
theorem kf_4_136 : XF RX4 136 7 11 := lw_in2 118 (by decide +kernel) rfl
theorem kf_7_48 : XF RX7 48 7 12 := lw_in2 119 (by decide +kernel) rfl
theorem kf_1_94 : XF RX1 94 7 12 := lw_in2 120 (by decide +kernel) rfl
theorem kk_1_41 : Cond.methodLink RX1 41 yX0_becomeFirst ∈ lw_g := lw_in2 148 (by decide +kernel) rfl
set_option maxRecDepth 100000 in
theorem kmX0_becomeFirst : XMV yX0_becomeFirst cX0_becomeFirst 1 none 0 := ⟨lw_in2 149 (by decide +kernel) rfl, lw_in2 150 (by decide +kernel) rfl, lw_in1 4 (by decide +kernel) rfl, lw_in2 151 rfl rfl, by decide +kernel⟩
theorem kk_0_39 : Cond.methodLink RX0 39 yX6_becomeFirst ∈ lw_g := lw_in2 152 (by decide +kernel) rfl
set_option maxRecDepth 100000 in
theorem kmX6_becomeFirst : XMV yX6_becomeFirst cX6_becomeFirst 2 none 0 := ⟨lw_in2 153 (by decide +kernel) rfl, lw_in2 154 (by decide +kernel) rfl, lw_in1 5 (by decide +kernel) rfl, lw_in2 155 rfl rfl, by decide +kernel⟩
set_option maxRecDepth 100000 in
theorem kmX10_put : XMS yX10_put cX10_put 3 none 3 := ⟨lw_in2 157 (by decide +kernel) rfl, lw_in1 1 (by decide +kernel) rfl, lw_in2 158 rfl rfl, by decide +kernel⟩
theorem kk_6_28 : Cond.methodLink RX6 28 yX6_dropProgram ∈ lw_g := lw_in2 159 (by decide +kernel) rfl
set_option maxRecDepth 100000 in
theorem kmX6_dropProgram : XMV yX6_dropProgram cX6_dropProgram 3 none 1 := ⟨lw_in2 160 (by decide +kernel) rfl, lw_in2 161 (by decide +kernel) rfl, lw_in1 5 (by decide +kernel) rfl, lw_in2 162 rfl rfl, by decide +kernel⟩
theorem kk_0_42 : Cond.methodLink RX0 42 yX0_seal ∈ lw_g := lw_in2 163 (by decide +kernel) rfl
set_option maxRecDepth 100000 in
theorem kmX0_seal : XMV yX0_seal cX0_seal 2 none 0 := ⟨lw_in2 164 (by decide +kernel) rfl, lw_in2 165 (by decide +kernel) rfl, lw_in1 4 (by decide +kernel) rfl, lw_in2 166 rfl rfl, by decide +kernel⟩
theorem kk_0_89 : Cond.methodLink RX0 89 yX0_topicIn ∈ lw_g := lw_in2 167 (by decide +kernel) rfl
set_option maxRecDepth 100000 in
theorem kmX0_topicIn : XMV yX0_topicIn cX0_topicIn 2 (some FieldType.int) 1 := ⟨lw_in2 168 (by decide +kernel) rfl, lw_in2 169 (by decide +kernel) rfl, lw_in1 4 (by decide +kernel) rfl, lw_in2 170 rfl rfl, by decide +kernel⟩
set_option maxRecDepth 100000 in
theorem kmX10_at : XMS yX10_at cX10_at 2 (some FieldType.int) 2 := ⟨lw_in2 172 (by decide +kernel) rfl, lw_in1 1 (by decide +kernel) rfl, lw_in2 173 rfl rfl, by decide +kernel⟩
theorem kk_0_93 : Cond.methodLink RX0 93 yX0_bloomOf ∈ lw_g := lw_in2 174 (by decide +kernel) rfl
set_option maxRecDepth 100000 in
theorem kmX0_bloomOf : XMS yX0_bloomOf cX0_bloomOf 1 (some FieldType.int) 1 := ⟨lw_in2 175 (by decide +kernel) rfl, lw_in1 4 (by decide +kernel) rfl, lw_in2 176 rfl rfl, by decide +kernel⟩
set_option maxRecDepth 100000 in
theorem kmX10_nodeOver : XMS yX10_nodeOver cX10_nodeOver 3 (some FieldType.int) 3 := ⟨lw_in2 178 (by decide +kernel) rfl, lw_in1 1 (by decide +kernel) rfl, lw_in2 179 rfl rfl, by decide +kernel⟩
theorem kk_10_269 : Cond.methodLink RX10 269 yX6_leafOf ∈ lw_g := lw_in2 180 (by decide +kernel) rfl
set_option maxRecDepth 100000 in
theorem kmX6_leafOf : XMV yX6_leafOf cX6_leafOf 4 (some FieldType.int) 1 := ⟨lw_in2 181 (by decide +kernel) rfl, lw_in2 182 (by decide +kernel) rfl, lw_in1 5 (by decide +kernel) rfl, lw_in2 183 rfl rfl, by decide +kernel⟩
set_option maxRecDepth 100000 in
theorem kmX10_mix : XMS yX10_mix cX10_mix 2 (some FieldType.int) 2 := ⟨lw_in2 186 (by decide +kernel) rfl, lw_in1 1 (by decide +kernel) rfl, lw_in2 187 rfl rfl, by decide +kernel⟩
theorem kc_10_257 : Cond.constantLong RX10 257 (31 : Int64) ∈ lw_g := lw_in2 188 (by decide +kernel) rfl
theorem kc_10_259 : Cond.constantLong RX10 259 (17 : Int64) ∈ lw_g := lw_in2 189 (by decide +kernel) rfl
theorem kc_10_261 : Cond.constantLong RX10 261 (7 : Int64) ∈ lw_g := lw_in2 190 (by decide +kernel) rfl
theorem kc_10_263 : Cond.constantLong RX10 263 (1000003 : Int64) ∈ lw_g := lw_in2 191 (by decide +kernel) rfl
theorem kc_6_54 : Cond.constant RX6 54 (1000003 : Int32) ∈ lw_g := lw_in2 192 (by decide +kernel) rfl
theorem kk_10_189 : Cond.methodLink RX10 189 yX10_nodeOver ∈ lw_g := lw_in2 193 (by decide +kernel) rfl
theorem kk_10_265 : Cond.methodLink RX10 265 yX10_mix ∈ lw_g := lw_in2 194 (by decide +kernel) rfl
theorem kf_1_11 : XF RX1 11 1 0 := lw_in2 195 (by decide +kernel) rfl
theorem kf_10_226 : XF RX10 226 1 0 := lw_in2 196 (by decide +kernel) rfl
theorem kf_1_17 : XF RX1 17 1 1 := lw_in2 197 (by decide +kernel) rfl
theorem kf_10_68 : XF RX10 68 1 1 := lw_in2 198 (by decide +kernel) rfl
theorem kf_1_23 : XF RX1 23 1 2 := lw_in2 199 (by decide +kernel) rfl
theorem kf_10_56 : XF RX10 56 1 3 := lw_in2 200 (by decide +kernel) rfl
theorem kf_1_68 : XF RX1 68 1 3 := lw_in2 201 (by decide +kernel) rfl
theorem kf_1_27 : XF RX1 27 1 4 := lw_in2 202 (by decide +kernel) rfl
theorem kf_1_33 : XF RX1 33 1 5 := lw_in2 203 (by decide +kernel) rfl
theorem kf_10_204 : XF RX10 204 1 5 := lw_in2 204 (by decide +kernel) rfl
theorem kf_10_10 : XF RX10 10 10 0 := lw_in2 218 (by decide +kernel) rfl
theorem kf_10_21 : XF RX10 21 10 1 := lw_in2 219 (by decide +kernel) rfl
theorem kf_10_27 : XF RX10 27 10 2 := lw_in2 220 (by decide +kernel) rfl
theorem kk_L_117 : Cond.methodLink RL 117 yL_cell ∈ lw_g := lw_in2 228 (by decide +kernel) rfl
set_option maxRecDepth 100000 in
theorem kmL_cell : XMS yL_cell cL_cell 2 (some FieldType.int) 2 := ⟨lw_in2 229 (by decide +kernel) rfl, lw_in1 0 (by decide +kernel) rfl, lw_in2 230 rfl rfl, by decide +kernel⟩
theorem kc_L_7 : Cond.constant RL 7 (2752673 : Int32) ∈ lw_g := lw_in2 231 (by decide +kernel) rfl
theorem kk_L_21 : Cond.methodLink RL 21 yL_low ∈ lw_g := lw_in2 232 (by decide +kernel) rfl
set_option maxRecDepth 100000 in
theorem kmL_low : XMS yL_low cL_low 2 (some FieldType.int) 2 := ⟨lw_in2 233 (by decide +kernel) rfl, lw_in1 0 (by decide +kernel) rfl, lw_in2 234 rfl rfl, by decide +kernel⟩
theorem kc_L_8 : Cond.constant RL 8 (2147483647 : Int32) ∈ lw_g := lw_in2 235 (by decide +kernel) rfl
theorem kk_L_121 : Cond.methodLink RL 121 yL_steps ∈ lw_g := lw_in2 236 (by decide +kernel) rfl
theorem kn_L_15 : Cond.classLink RL 15 "java/lang/IndexOutOfBoundsException" ∈ lw_g := lw_in2 239 (by decide +kernel) rfl
theorem kn_L_17 : Cond.classLink RL 17 "java/lang/IllegalArgumentException" ∈ lw_g := lw_in3 0 (by decide +kernel) rfl
theorem kn_L_19 : Cond.classLink RL 19 "java/lang/IllegalStateException" ∈ lw_g := lw_in3 1 (by decide +kernel) rfl
theorem kk_L_9 : Cond.methodLink RL 9 yX10_step ∈ lw_g := lw_in3 2 (by decide +kernel) rfl
set_option maxRecDepth 100000 in
theorem kmX10_step : XMV yX10_step cX10_step 8 (some FieldType.int) 3 := ⟨lw_in3 3 (by decide +kernel) rfl, lw_in3 4 (by decide +kernel) rfl, lw_in1 1 (by decide +kernel) rfl, lw_in3 5 rfl rfl, by decide +kernel⟩
theorem kk_10_32 : Cond.methodLink RX10 32 yX10_demandIndex ∈ lw_g := lw_in3 6 (by decide +kernel) rfl
set_option maxRecDepth 100000 in
theorem kmX10_demandIndex : XMS yX10_demandIndex cX10_demandIndex 2 none 2 := ⟨lw_in3 7 (by decide +kernel) rfl, lw_in1 1 (by decide +kernel) rfl, lw_in3 8 rfl rfl, by decide +kernel⟩
theorem kn_10_240 : Cond.classLink RX10 240 "java/lang/IndexOutOfBoundsException" ∈ lw_g := lw_in3 9 (by decide +kernel) rfl
theorem kk_10_242 : Cond.methodLink RX10 242 ⟨"java/lang/IndexOutOfBoundsException", "<init>", "()V"⟩ ∈ lw_g := lw_in3 50 (by decide +kernel) rfl
theorem kk_10_36 : Cond.methodLink RX10 36 yX10_demandRange ∈ lw_g := lw_in3 72 (by decide +kernel) rfl
set_option maxRecDepth 100000 in
theorem kmX10_demandRange : XMS yX10_demandRange cX10_demandRange 3 none 3 := ⟨lw_in3 73 (by decide +kernel) rfl, lw_in1 1 (by decide +kernel) rfl, lw_in3 74 rfl rfl, by decide +kernel⟩
theorem kk_10_99 : Cond.methodLink RX10 99 yX10_demandArgument ∈ lw_g := lw_in3 75 (by decide +kernel) rfl
set_option maxRecDepth 100000 in
theorem kmX10_demandArgument : XMS yX10_demandArgument cX10_demandArgument 1 none 1 := ⟨lw_in3 76 (by decide +kernel) rfl, lw_in1 1 (by decide +kernel) rfl, lw_in3 77 rfl rfl, by decide +kernel⟩
theorem kn_10_243 : Cond.classLink RX10 243 "java/lang/IllegalArgumentException" ∈ lw_g := lw_in3 78 (by decide +kernel) rfl
theorem kk_10_245 : Cond.methodLink RX10 245 ⟨"java/lang/IllegalArgumentException", "<init>", "()V"⟩ ∈ lw_g := lw_in3 87 (by decide +kernel) rfl
theorem ks_10_40 : Cond.fieldLink RX10 40 "ForkBridge" "LAST_ARGUMENT" "[I" ∈ lw_g := lw_in3 93 (by decide +kernel) rfl
theorem kk_10_44 : Cond.methodLink RX10 44 yX10_at ∈ lw_g := lw_in3 95 (by decide +kernel) rfl
theorem kk_10_48 : Cond.methodLink RX10 48 yX5_lengthOf ∈ lw_g := lw_in3 96 (by decide +kernel) rfl
set_option maxRecDepth 100000 in
theorem kmX5_lengthOf : XMV yX5_lengthOf cX5_lengthOf 2 (some FieldType.int) 1 := ⟨lw_in3 97 (by decide +kernel) rfl, lw_in3 98 (by decide +kernel) rfl, lw_in1 2 (by decide +kernel) rfl, lw_in3 99 rfl rfl, by decide +kernel⟩
theorem kk_10_52 : Cond.methodLink RX10 52 yX10_demandState ∈ lw_g := lw_in3 101 (by decide +kernel) rfl
set_option maxRecDepth 100000 in
theorem kmX10_demandState : XMS yX10_demandState cX10_demandState 1 none 1 := ⟨lw_in3 102 (by decide +kernel) rfl, lw_in1 1 (by decide +kernel) rfl, lw_in3 103 rfl rfl, by decide +kernel⟩
theorem kn_10_246 : Cond.classLink RX10 246 "java/lang/IllegalStateException" ∈ lw_g := lw_in3 104 (by decide +kernel) rfl
theorem kk_10_248 : Cond.methodLink RX10 248 ⟨"java/lang/IllegalStateException", "<init>", "()V"⟩ ∈ lw_g := lw_in3 113 (by decide +kernel) rfl
theorem kk_10_60 : Cond.methodLink RX10 60 yX5_append ∈ lw_g := lw_in3 119 (by decide +kernel) rfl
set_option maxRecDepth 100000 in
theorem kmX5_append : XMV yX5_append cX5_append 5 (some FieldType.int) 3 := ⟨lw_in3 120 (by decide +kernel) rfl, lw_in3 121 (by decide +kernel) rfl, lw_in1 2 (by decide +kernel) rfl, lw_in3 122 rfl rfl, by decide +kernel⟩
theorem kk_5_25 : Cond.methodLink RX5 25 yX5_lengthOf ∈ lw_g := lw_in3 123 (by decide +kernel) rfl
theorem kk_L_98 : Cond.methodLink RL 98 yL_submits ∈ lw_g := lw_in3 125 (by decide +kernel) rfl
theorem kk_L_27 : Cond.methodLink RL 27 yX10_submit ∈ lw_g := lw_in3 128 (by decide +kernel) rfl
set_option maxRecDepth 100000 in
theorem kmX10_submit : XMV yX10_submit cX10_submit 12 (some FieldType.int) 9 := ⟨lw_in3 129 (by decide +kernel) rfl, lw_in3 130 (by decide +kernel) rfl, lw_in1 1 (by decide +kernel) rfl, lw_in3 131 rfl rfl, by decide +kernel⟩
theorem kk_10_64 : Cond.methodLink RX10 64 yX10_demandChain ∈ lw_g := lw_in3 132 (by decide +kernel) rfl
set_option maxRecDepth 100000 in
theorem kmX10_demandChain : XMV yX10_demandChain cX10_demandChain 2 (some (FieldType.object "ForkBridge$Chain")) 1 := ⟨lw_in3 134 (by decide +kernel) rfl, lw_in0 1 (by decide +kernel) rfl, lw_in1 1 (by decide +kernel) rfl, lw_in3 135 rfl rfl, by decide +kernel⟩
theorem kk_10_74 : Cond.methodLink RX10 74 yX1_draft ∈ lw_g := lw_in3 136 (by decide +kernel) rfl
set_option maxRecDepth 100000 in
theorem kmX1_draft : XMV yX1_draft cX1_draft 1 (some (FieldType.object "ForkBridge$Transaction")) 0 := ⟨lw_in3 137 (by decide +kernel) rfl, lw_in3 138 (by decide +kernel) rfl, lw_in1 7 (by decide +kernel) rfl, lw_in3 139 rfl rfl, by decide +kernel⟩
theorem kk_1_71 : Cond.methodLink RX1 71 yX1_numbered ∈ lw_g := lw_in3 140 (by decide +kernel) rfl
set_option maxRecDepth 100000 in
theorem kmX1_numbered : XMV yX1_numbered cX1_numbered 2 (some (FieldType.object "ForkBridge$Transaction")) 1 := ⟨lw_in3 141 (by decide +kernel) rfl, lw_in3 142 (by decide +kernel) rfl, lw_in1 7 (by decide +kernel) rfl, lw_in3 143 rfl rfl, by decide +kernel⟩
theorem kk_10_78 : Cond.methodLink RX10 78 yX7_order ∈ lw_g := lw_in3 144 (by decide +kernel) rfl
set_option maxRecDepth 100000 in
theorem kmX7_order : XMV yX7_order cX7_order 7 none 6 := ⟨lw_in3 145 (by decide +kernel) rfl, lw_in3 146 (by decide +kernel) rfl, lw_in1 11 (by decide +kernel) rfl, lw_in3 147 rfl rfl, by decide +kernel⟩
theorem kk_10_84 : Cond.methodLink RX10 84 yX7_bid ∈ lw_g := lw_in3 148 (by decide +kernel) rfl
set_option maxRecDepth 100000 in
theorem kmX7_bid : XMV yX7_bid cX7_bid 3 none 2 := ⟨lw_in3 149 (by decide +kernel) rfl, lw_in3 150 (by decide +kernel) rfl, lw_in1 11 (by decide +kernel) rfl, lw_in3 151 rfl rfl, by decide +kernel⟩
theorem kk_10_87 : Cond.methodLink RX10 87 yX1_admit ∈ lw_g := lw_in3 152 (by decide +kernel) rfl
set_option maxRecDepth 100000 in
theorem kmX1_admit : XMV yX1_admit cX1_admit 8 (some FieldType.int) 1 := ⟨lw_in3 153 (by decide +kernel) rfl, lw_in3 154 (by decide +kernel) rfl, lw_in1 7 (by decide +kernel) rfl, lw_in3 155 rfl rfl, by decide +kernel⟩
theorem kk_1_62 : Cond.methodLink RX1 62 yX1_headBlock ∈ lw_g := lw_in3 156 (by decide +kernel) rfl
set_option maxRecDepth 100000 in
theorem kmX1_headBlock : XMV yX1_headBlock cX1_headBlock 7 (some (FieldType.object "ForkBridge$Block")) 0 := ⟨lw_in3 157 (by decide +kernel) rfl, lw_in3 158 (by decide +kernel) rfl, lw_in1 7 (by decide +kernel) rfl, lw_in3 159 rfl rfl, by decide +kernel⟩
theorem kk_1_51 : Cond.methodLink RX1 51 yX1_lastFinalBlock ∈ lw_g := lw_in3 160 (by decide +kernel) rfl
set_option maxRecDepth 100000 in
theorem kmX1_lastFinalBlock : XMV yX1_lastFinalBlock cX1_lastFinalBlock 1 (some (FieldType.object "ForkBridge$Block")) 0 := ⟨lw_in3 161 (by decide +kernel) rfl, lw_in3 162 (by decide +kernel) rfl, lw_in1 7 (by decide +kernel) rfl, lw_in3 163 rfl rfl, by decide +kernel⟩
theorem kk_1_47 : Cond.methodLink RX1 47 yX1_numberedBlock ∈ lw_g := lw_in3 164 (by decide +kernel) rfl
set_option maxRecDepth 100000 in
theorem kmX1_numberedBlock : XMV yX1_numberedBlock cX1_numberedBlock 2 (some (FieldType.object "ForkBridge$Block")) 1 := ⟨lw_in3 165 (by decide +kernel) rfl, lw_in3 166 (by decide +kernel) rfl, lw_in1 7 (by decide +kernel) rfl, lw_in3 167 rfl rfl, by decide +kernel⟩
theorem kk_1_55 : Cond.methodLink RX1 55 yX0_comesFrom ∈ lw_g := lw_in3 168 (by decide +kernel) rfl
set_option maxRecDepth 100000 in
theorem kmX0_comesFrom : XMV yX0_comesFrom cX0_comesFrom 2 (some FieldType.boolean) 1 := ⟨lw_in3 169 (by decide +kernel) rfl, lw_in3 170 (by decide +kernel) rfl, lw_in1 4 (by decide +kernel) rfl, lw_in3 171 rfl rfl, by decide +kernel⟩
theorem kk_1_65 : Cond.methodLink RX1 65 yX7_waitsBehind ∈ lw_g := lw_in3 172 (by decide +kernel) rfl
set_option maxRecDepth 100000 in
theorem kmX7_waitsBehind : XMV yX7_waitsBehind cX7_waitsBehind 2 (some FieldType.boolean) 1 := ⟨lw_in3 173 (by decide +kernel) rfl, lw_in3 174 (by decide +kernel) rfl, lw_in1 11 (by decide +kernel) rfl, lw_in3 175 rfl rfl, by decide +kernel⟩
theorem kk_7_52 : Cond.methodLink RX7 52 yX0_holds ∈ lw_g := lw_in3 176 (by decide +kernel) rfl
set_option maxRecDepth 100000 in
theorem kmX0_holds : XMV yX0_holds cX0_holds 2 (some FieldType.boolean) 1 := ⟨lw_in3 177 (by decide +kernel) rfl, lw_in3 178 (by decide +kernel) rfl, lw_in1 4 (by decide +kernel) rfl, lw_in3 179 rfl rfl, by decide +kernel⟩
theorem kk_1_75 : Cond.methodLink RX1 75 yX7_rivals ∈ lw_g := lw_in3 180 (by decide +kernel) rfl
set_option maxRecDepth 100000 in
theorem kmX7_rivals : XMV yX7_rivals cX7_rivals 2 (some FieldType.boolean) 1 := ⟨lw_in3 181 (by decide +kernel) rfl, lw_in3 182 (by decide +kernel) rfl, lw_in1 11 (by decide +kernel) rfl, lw_in3 183 rfl rfl, by decide +kernel⟩
theorem kk_1_79 : Cond.methodLink RX1 79 yX7_outbids ∈ lw_g := lw_in3 184 (by decide +kernel) rfl
set_option maxRecDepth 100000 in
theorem kmX7_outbids : XMV yX7_outbids cX7_outbids 2 (some FieldType.boolean) 1 := ⟨lw_in3 185 (by decide +kernel) rfl, lw_in3 186 (by decide +kernel) rfl, lw_in1 11 (by decide +kernel) rfl, lw_in3 187 rfl rfl, by decide +kernel⟩
theorem kk_1_82 : Cond.methodLink RX1 82 yX1_dropRivals ∈ lw_g := lw_in3 188 (by decide +kernel) rfl
set_option maxRecDepth 100000 in
theorem kmX1_dropRivals : XMV yX1_dropRivals cX1_dropRivals 7 none 2 := ⟨lw_in3 190 (by decide +kernel) rfl, lw_in0 2 (by decide +kernel) rfl, lw_in1 7 (by decide +kernel) rfl, lw_in3 191 rfl rfl, by decide +kernel⟩
theorem kk_1_86 : Cond.methodLink RX1 86 yX1_countWaiting ∈ lw_g := lw_in3 192 (by decide +kernel) rfl
set_option maxRecDepth 100000 in
theorem kmX1_countWaiting : XMV yX1_countWaiting cX1_countWaiting 7 (some FieldType.int) 0 := ⟨lw_in3 193 (by decide +kernel) rfl, lw_in3 194 (by decide +kernel) rfl, lw_in1 7 (by decide +kernel) rfl, lw_in3 195 rfl rfl, by decide +kernel⟩
theorem kk_1_90 : Cond.methodLink RX1 90 yX1_throwOutFor ∈ lw_g := lw_in3 196 (by decide +kernel) rfl
set_option maxRecDepth 100000 in
theorem kmX1_throwOutFor : XMV yX1_throwOutFor cX1_throwOutFor 8 (some FieldType.boolean) 2 := ⟨lw_in3 198 (by decide +kernel) rfl, lw_in0 3 (by decide +kernel) rfl, lw_in1 7 (by decide +kernel) rfl, lw_in3 199 rfl rfl, by decide +kernel⟩
theorem kk_L_109 : Cond.methodLink RL 109 yL_claims ∈ lw_g := lw_in3 200 (by decide +kernel) rfl
theorem kk_L_31 : Cond.methodLink RL 31 yX10_claim ∈ lw_g := lw_in3 203 (by decide +kernel) rfl
set_option maxRecDepth 100000 in
theorem kmX10_claim : XMV yX10_claim cX10_claim 11 (some FieldType.int) 6 := ⟨lw_in3 204 (by decide +kernel) rfl, lw_in3 205 (by decide +kernel) rfl, lw_in1 1 (by decide +kernel) rfl, lw_in3 206 rfl rfl, by decide +kernel⟩
theorem kk_10_91 : Cond.methodLink RX10 91 yX1_numbered ∈ lw_g := lw_in3 207 (by decide +kernel) rfl
theorem kk_10_95 : Cond.methodLink RX10 95 yX7_isLock ∈ lw_g := lw_in3 208 (by decide +kernel) rfl
set_option maxRecDepth 100000 in
theorem kmX7_isLock : XMV yX7_isLock cX7_isLock 1 (some FieldType.boolean) 0 := ⟨lw_in3 209 (by decide +kernel) rfl, lw_in3 210 (by decide +kernel) rfl, lw_in1 11 (by decide +kernel) rfl, lw_in3 211 rfl rfl, by decide +kernel⟩
theorem kk_10_102 : Cond.methodLink RX10 102 yX1_lastFinalBlock ∈ lw_g := lw_in3 212 (by decide +kernel) rfl
theorem kk_10_106 : Cond.methodLink RX10 106 yX0_holds ∈ lw_g := lw_in3 213 (by decide +kernel) rfl
theorem kk_10_112 : Cond.methodLink RX10 112 yX7_nameLock ∈ lw_g := lw_in3 214 (by decide +kernel) rfl
set_option maxRecDepth 100000 in
theorem kmX7_nameLock : XMV yX7_nameLock cX7_nameLock 2 none 1 := ⟨lw_in3 215 (by decide +kernel) rfl, lw_in3 216 (by decide +kernel) rfl, lw_in1 11 (by decide +kernel) rfl, lw_in3 217 rfl rfl, by decide +kernel⟩
theorem kk_L_102 : Cond.methodLink RL 102 yL_makes ∈ lw_g := lw_in3 218 (by decide +kernel) rfl
theorem kk_L_35 : Cond.methodLink RL 35 yX10_make ∈ lw_g := lw_in3 221 (by decide +kernel) rfl
set_option maxRecDepth 100000 in
theorem kmX10_make : XMV yX10_make cX10_make 7 (some FieldType.int) 4 := ⟨lw_in3 222 (by decide +kernel) rfl, lw_in3 223 (by decide +kernel) rfl, lw_in1 1 (by decide +kernel) rfl, lw_in3 224 rfl rfl, by decide +kernel⟩
theorem kk_10_120 : Cond.methodLink RX10 120 yX10_demandBlock ∈ lw_g := lw_in3 225 (by decide +kernel) rfl
set_option maxRecDepth 100000 in
theorem kmX10_demandBlock : XMV yX10_demandBlock cX10_demandBlock 4 (some (FieldType.object "ForkBridge$Block")) 2 := ⟨lw_in3 227 (by decide +kernel) rfl, lw_in0 4 (by decide +kernel) rfl, lw_in1 1 (by decide +kernel) rfl, lw_in3 228 rfl rfl, by decide +kernel⟩
theorem kk_10_249 : Cond.methodLink RX10 249 yX1_numberedBlock ∈ lw_g := lw_in3 229 (by decide +kernel) rfl
theorem kk_10_128 : Cond.methodLink RX10 128 yX1_grow ∈ lw_g := lw_in3 230 (by decide +kernel) rfl
set_option maxRecDepth 100000 in
theorem kmX1_grow : XMV yX1_grow cX1_grow 8 (some FieldType.int) 4 := ⟨lw_in3 231 (by decide +kernel) rfl, lw_in3 232 (by decide +kernel) rfl, lw_in1 7 (by decide +kernel) rfl, lw_in3 233 rfl rfl, by decide +kernel⟩
theorem kk_1_104 : Cond.methodLink RX1 104 yX0_follow ∈ lw_g := lw_in3 234 (by decide +kernel) rfl
set_option maxRecDepth 100000 in
theorem kmX0_follow : XMV yX0_follow cX0_follow 4 none 3 := ⟨lw_in3 235 (by decide +kernel) rfl, lw_in3 236 (by decide +kernel) rfl, lw_in1 4 (by decide +kernel) rfl, lw_in3 237 rfl rfl, by decide +kernel⟩
theorem kk_0_57 : Cond.methodLink RX0 57 yJ9_max_7cf53 ∈ lw_g := lw_in3 238 (by decide +kernel) rfl
set_option maxRecDepth 100000 in
theorem kmJ9_max_7cf53 : XMS yJ9_max_7cf53 cJ9_max_7cf53 2 (some FieldType.int) 2 := ⟨lw_in3 239 (by decide +kernel) rfl, lw_in1 18 (by decide +kernel) rfl, lw_in4 0 rfl rfl, by decide +kernel⟩
theorem kk_0_67 : Cond.methodLink RX0 67 yX6_copyFrom ∈ lw_g := lw_in4 1 (by decide +kernel) rfl
set_option maxRecDepth 100000 in
theorem kmX6_copyFrom : XMV yX6_copyFrom cX6_copyFrom 2 none 1 := ⟨lw_in4 2 (by decide +kernel) rfl, lw_in4 3 (by decide +kernel) rfl, lw_in1 5 (by decide +kernel) rfl, lw_in4 4 rfl rfl, by decide +kernel⟩
theorem kk_6_40 : Cond.methodLink RX6 40 ⟨"java/lang/System", "arraycopy", "(Ljava/lang/Object;ILjava/lang/Object;II)V"⟩ ∈ lw_g := lw_in4 5 (by decide +kernel) rfl
theorem kk_1_108 : Cond.methodLink RX1 108 yX1_isUpgraded ∈ lw_g := lw_in4 8 (by decide +kernel) rfl
set_option maxRecDepth 100000 in
theorem kmX1_isUpgraded : XMV yX1_isUpgraded cX1_isUpgraded 2 (some FieldType.boolean) 1 := ⟨lw_in4 10 (by decide +kernel) rfl, lw_in0 5 (by decide +kernel) rfl, lw_in1 7 (by decide +kernel) rfl, lw_in4 11 rfl rfl, by decide +kernel⟩
theorem kk_1_111 : Cond.methodLink RX1 111 yX4_open ∈ lw_g := lw_in4 12 (by decide +kernel) rfl
set_option maxRecDepth 100000 in
theorem kmX4_open : XMV yX4_open cX4_open 3 none 2 := ⟨lw_in4 13 (by decide +kernel) rfl, lw_in4 14 (by decide +kernel) rfl, lw_in1 3 (by decide +kernel) rfl, lw_in4 15 rfl rfl, by decide +kernel⟩
theorem kk_1_117 : Cond.methodLink RX1 117 yX1_bestFor ∈ lw_g := lw_in4 16 (by decide +kernel) rfl
set_option maxRecDepth 100000 in
theorem kmX1_bestFor : XMV yX1_bestFor cX1_bestFor 7 (some (FieldType.object "ForkBridge$Transaction")) 1 := ⟨lw_in4 18 (by decide +kernel) rfl, lw_in0 6 (by decide +kernel) rfl, lw_in1 7 (by decide +kernel) rfl, lw_in4 19 rfl rfl, by decide +kernel⟩
theorem kk_1_139 : Cond.methodLink RX1 139 yX7_fits ∈ lw_g := lw_in4 20 (by decide +kernel) rfl
set_option maxRecDepth 100000 in
theorem kmX7_fits : XMV yX7_fits cX7_fits 2 (some FieldType.boolean) 1 := ⟨lw_in4 21 (by decide +kernel) rfl, lw_in4 22 (by decide +kernel) rfl, lw_in1 11 (by decide +kernel) rfl, lw_in4 23 rfl rfl, by decide +kernel⟩
theorem kk_1_145 : Cond.methodLink RX1 145 yX7_priceAt ∈ lw_g := lw_in4 25 (by decide +kernel) rfl
set_option maxRecDepth 100000 in
theorem kmX7_priceAt : XMV yX7_priceAt cX7_priceAt 2 (some FieldType.int) 1 := ⟨lw_in4 26 (by decide +kernel) rfl, lw_in4 27 (by decide +kernel) rfl, lw_in1 11 (by decide +kernel) rfl, lw_in4 28 rfl rfl, by decide +kernel⟩
theorem kk_7_58 : Cond.methodLink RX7 58 yJ9_min_7cf53 ∈ lw_g := lw_in4 29 (by decide +kernel) rfl
set_option maxRecDepth 100000 in
theorem kmJ9_min_7cf53 : XMS yJ9_min_7cf53 cJ9_min_7cf53 2 (some FieldType.int) 2 := ⟨lw_in4 30 (by decide +kernel) rfl, lw_in1 18 (by decide +kernel) rfl, lw_in4 31 rfl rfl, by decide +kernel⟩
theorem kk_1_121 : Cond.methodLink RX1 121 yX4_transact ∈ lw_g := lw_in4 32 (by decide +kernel) rfl
set_option maxRecDepth 100000 in
theorem kmX4_transact : XMV yX4_transact cX4_transact 4 none 1 := ⟨lw_in4 33 (by decide +kernel) rfl, lw_in4 34 (by decide +kernel) rfl, lw_in1 3 (by decide +kernel) rfl, lw_in4 35 rfl rfl, by decide +kernel⟩
theorem kk_4_46 : Cond.methodLink RX4 46 yX7_priceAt ∈ lw_g := lw_in4 36 (by decide +kernel) rfl
theorem kk_4_55 : Cond.methodLink RX4 55 yX6_raiseNonce ∈ lw_g := lw_in4 37 (by decide +kernel) rfl
set_option maxRecDepth 100000 in
theorem kmX6_raiseNonce : XMV yX6_raiseNonce cX6_raiseNonce 2 none 1 := ⟨lw_in4 38 (by decide +kernel) rfl, lw_in4 39 (by decide +kernel) rfl, lw_in1 5 (by decide +kernel) rfl, lw_in4 40 rfl rfl, by decide +kernel⟩
theorem kk_4_63 : Cond.methodLink RX4 63 yX6_gain ∈ lw_g := lw_in4 41 (by decide +kernel) rfl
set_option maxRecDepth 100000 in
theorem kmX6_gain : XMV yX6_gain cX6_gain 3 none 2 := ⟨lw_in4 42 (by decide +kernel) rfl, lw_in4 43 (by decide +kernel) rfl, lw_in1 5 (by decide +kernel) rfl, lw_in4 44 rfl rfl, by decide +kernel⟩
theorem kk_4_74 : Cond.methodLink RX4 74 yX4_payOut ∈ lw_g := lw_in4 45 (by decide +kernel) rfl
set_option maxRecDepth 100000 in
theorem kmX4_payOut : XMV yX4_payOut cX4_payOut 2 (some FieldType.boolean) 1 := ⟨lw_in4 47 (by decide +kernel) rfl, lw_in0 7 (by decide +kernel) rfl, lw_in1 3 (by decide +kernel) rfl, lw_in4 48 rfl rfl, by decide +kernel⟩
theorem kk_4_121 : Cond.methodLink RX4 121 yX6_isPaid ∈ lw_g := lw_in4 49 (by decide +kernel) rfl
set_option maxRecDepth 100000 in
theorem kmX6_isPaid : XMV yX6_isPaid cX6_isPaid 2 (some FieldType.boolean) 1 := ⟨lw_in4 50 (by decide +kernel) rfl, lw_in4 51 (by decide +kernel) rfl, lw_in1 5 (by decide +kernel) rfl, lw_in4 52 rfl rfl, by decide +kernel⟩
theorem kk_4_139 : Cond.methodLink RX4 139 yX6_move ∈ lw_g := lw_in4 54 (by decide +kernel) rfl
set_option maxRecDepth 100000 in
theorem kmX6_move : XMV yX6_move cX6_move 4 none 3 := ⟨lw_in4 55 (by decide +kernel) rfl, lw_in4 56 (by decide +kernel) rfl, lw_in1 5 (by decide +kernel) rfl, lw_in4 57 rfl rfl, by decide +kernel⟩
theorem kk_4_91 : Cond.methodLink RX4 91 yX4_found ∈ lw_g := lw_in4 58 (by decide +kernel) rfl
set_option maxRecDepth 100000 in
theorem kmX4_found : XMV yX4_found cX4_found 6 (some FieldType.int) 4 := ⟨lw_in4 60 (by decide +kernel) rfl, lw_in0 8 (by decide +kernel) rfl, lw_in1 3 (by decide +kernel) rfl, lw_in4 61 rfl rfl, by decide +kernel⟩
theorem kk_4_98 : Cond.methodLink RX4 98 yX4_deliver ∈ lw_g := lw_in4 63 (by decide +kernel) rfl
set_option maxRecDepth 100000 in
theorem kmX4_deliver : XMV yX4_deliver cX4_deliver 10 (some FieldType.boolean) 6 := ⟨lw_in4 65 (by decide +kernel) rfl, lw_in0 9 (by decide +kernel) rfl, lw_in1 3 (by decide +kernel) rfl, lw_in4 66 rfl rfl, by decide +kernel⟩
theorem kk_4_157 : Cond.methodLink RX4 157 yX3_open ∈ lw_g := lw_in4 67 (by decide +kernel) rfl
set_option maxRecDepth 100000 in
theorem kmX3_open : XMV yX3_open cX3_open 7 none 5 := ⟨lw_in4 68 (by decide +kernel) rfl, lw_in4 69 (by decide +kernel) rfl, lw_in1 6 (by decide +kernel) rfl, lw_in4 70 rfl rfl, by decide +kernel⟩
theorem kk_4_164 : Cond.methodLink RX4 164 yX3_save ∈ lw_g := lw_in4 72 (by decide +kernel) rfl
set_option maxRecDepth 100000 in
theorem kmX3_save : XMV yX3_save cX3_save 4 none 3 := ⟨lw_in4 73 (by decide +kernel) rfl, lw_in4 74 (by decide +kernel) rfl, lw_in1 6 (by decide +kernel) rfl, lw_in4 75 rfl rfl, by decide +kernel⟩
theorem kk_3_54 : Cond.methodLink RX3 54 yX6_copyFrom ∈ lw_g := lw_in4 76 (by decide +kernel) rfl
theorem kk_4_168 : Cond.methodLink RX4 168 yX4_runProgram ∈ lw_g := lw_in4 77 (by decide +kernel) rfl
set_option maxRecDepth 100000 in
theorem kmX4_runProgram : XMV yX4_runProgram cX4_runProgram 7 (some FieldType.boolean) 2 := ⟨lw_in4 79 (by decide +kernel) rfl, lw_in0 10 (by decide +kernel) rfl, lw_in1 3 (by decide +kernel) rfl, lw_in4 80 rfl rfl, by decide +kernel⟩
theorem kc_4_189 : Cond.constant RX4 189 (1000000 : Int32) ∈ lw_g := lw_in4 81 (by decide +kernel) rfl
theorem kk_4_196 : Cond.methodLink RX4 196 yX5_lengthOf ∈ lw_g := lw_in4 82 (by decide +kernel) rfl
theorem kk_4_201 : Cond.methodLink RX4 201 yX5_operationAt ∈ lw_g := lw_in4 83 (by decide +kernel) rfl
set_option maxRecDepth 100000 in
theorem kmX5_operationAt : XMV yX5_operationAt cX5_operationAt 3 (some FieldType.int) 2 := ⟨lw_in4 84 (by decide +kernel) rfl, lw_in4 85 (by decide +kernel) rfl, lw_in1 2 (by decide +kernel) rfl, lw_in4 86 rfl rfl, by decide +kernel⟩
theorem kk_4_204 : Cond.methodLink RX4 204 yX5_argumentAt ∈ lw_g := lw_in4 87 (by decide +kernel) rfl
set_option maxRecDepth 100000 in
theorem kmX5_argumentAt : XMV yX5_argumentAt cX5_argumentAt 3 (some FieldType.int) 2 := ⟨lw_in4 88 (by decide +kernel) rfl, lw_in4 89 (by decide +kernel) rfl, lw_in1 2 (by decide +kernel) rfl, lw_in4 90 rfl rfl, by decide +kernel⟩
theorem kk_4_210 : Cond.methodLink RX4 210 yX4_extraGas ∈ lw_g := lw_in4 93 (by decide +kernel) rfl
set_option maxRecDepth 100000 in
theorem kmX4_extraGas : XMV yX4_extraGas cX4_extraGas 5 (some FieldType.int) 3 := ⟨lw_in4 95 (by decide +kernel) rfl, lw_in0 11 (by decide +kernel) rfl, lw_in1 3 (by decide +kernel) rfl, lw_in4 96 rfl rfl, by decide +kernel⟩
theorem kk_4_236 : Cond.methodLink RX4 236 yX3_growthTo ∈ lw_g := lw_in4 97 (by decide +kernel) rfl
set_option maxRecDepth 100000 in
theorem kmX3_growthTo : XMV yX3_growthTo cX3_growthTo 2 (some FieldType.int) 1 := ⟨lw_in4 98 (by decide +kernel) rfl, lw_in4 99 (by decide +kernel) rfl, lw_in1 6 (by decide +kernel) rfl, lw_in4 100 rfl rfl, by decide +kernel⟩
theorem kk_3_74 : Cond.methodLink RX3 74 yX3_memoryGas ∈ lw_g := lw_in4 101 (by decide +kernel) rfl
set_option maxRecDepth 100000 in
theorem kmX3_memoryGas : XMS yX3_memoryGas cX3_memoryGas 1 (some FieldType.int) 1 := ⟨lw_in4 102 (by decide +kernel) rfl, lw_in1 6 (by decide +kernel) rfl, lw_in4 103 rfl rfl, by decide +kernel⟩
theorem kk_4_245 : Cond.methodLink RX4 245 yX3_top ∈ lw_g := lw_in4 104 (by decide +kernel) rfl
set_option maxRecDepth 100000 in
theorem kmX3_top : XMV yX3_top cX3_top 1 (some FieldType.int) 0 := ⟨lw_in4 105 (by decide +kernel) rfl, lw_in4 106 (by decide +kernel) rfl, lw_in1 6 (by decide +kernel) rfl, lw_in4 107 rfl rfl, by decide +kernel⟩
theorem kk_4_214 : Cond.methodLink RX4 214 yX3_heapAllows ∈ lw_g := lw_in4 109 (by decide +kernel) rfl
set_option maxRecDepth 100000 in
theorem kmX3_heapAllows : XMV yX3_heapAllows cX3_heapAllows 3 (some FieldType.boolean) 1 := ⟨lw_in4 110 (by decide +kernel) rfl, lw_in4 111 (by decide +kernel) rfl, lw_in1 6 (by decide +kernel) rfl, lw_in4 112 rfl rfl, by decide +kernel⟩
theorem kk_4_217 : Cond.methodLink RX4 217 yX4_finish ∈ lw_g := lw_in4 117 (by decide +kernel) rfl
set_option maxRecDepth 100000 in
theorem kmX4_finish : XMV yX4_finish cX4_finish 5 (some FieldType.boolean) 2 := ⟨lw_in4 119 (by decide +kernel) rfl, lw_in0 12 (by decide +kernel) rfl, lw_in1 3 (by decide +kernel) rfl, lw_in4 120 rfl rfl, by decide +kernel⟩
theorem kk_4_249 : Cond.methodLink RX4 249 yX3_take ∈ lw_g := lw_in4 121 (by decide +kernel) rfl
set_option maxRecDepth 100000 in
theorem kmX3_take : XMV yX3_take cX3_take 1 (some FieldType.int) 0 := ⟨lw_in4 122 (by decide +kernel) rfl, lw_in4 123 (by decide +kernel) rfl, lw_in1 6 (by decide +kernel) rfl, lw_in4 124 rfl rfl, by decide +kernel⟩
theorem kk_4_252 : Cond.methodLink RX4 252 yX6_dropProgram ∈ lw_g := lw_in4 125 (by decide +kernel) rfl
theorem kk_4_221 : Cond.methodLink RX4 221 yX4_callFrom ∈ lw_g := lw_in4 126 (by decide +kernel) rfl
set_option maxRecDepth 100000 in
theorem kmX4_callFrom : XMV yX4_callFrom cX4_callFrom 8 none 2 := ⟨lw_in4 128 (by decide +kernel) rfl, lw_in0 13 (by decide +kernel) rfl, lw_in1 3 (by decide +kernel) rfl, lw_in4 129 rfl rfl, by decide +kernel⟩
theorem kk_4_255 : Cond.methodLink RX4 255 yX3_push ∈ lw_g := lw_in4 130 (by decide +kernel) rfl
set_option maxRecDepth 100000 in
theorem kmX3_push : XMV yX3_push cX3_push 2 none 1 := ⟨lw_in4 131 (by decide +kernel) rfl, lw_in4 132 (by decide +kernel) rfl, lw_in1 6 (by decide +kernel) rfl, lw_in4 133 rfl rfl, by decide +kernel⟩
theorem kk_4_225 : Cond.methodLink RX4 225 yX4_makeFrom ∈ lw_g := lw_in4 134 (by decide +kernel) rfl
set_option maxRecDepth 100000 in
theorem kmX4_makeFrom : XMV yX4_makeFrom cX4_makeFrom 6 none 2 := ⟨lw_in4 136 (by decide +kernel) rfl, lw_in0 14 (by decide +kernel) rfl, lw_in1 3 (by decide +kernel) rfl, lw_in4 137 rfl rfl, by decide +kernel⟩
theorem kk_4_229 : Cond.methodLink RX4 229 yX4_touchState ∈ lw_g := lw_in4 138 (by decide +kernel) rfl
set_option maxRecDepth 100000 in
theorem kmX4_touchState : XMV yX4_touchState cX4_touchState 4 (some FieldType.boolean) 3 := ⟨lw_in4 140 (by decide +kernel) rfl, lw_in0 15 (by decide +kernel) rfl, lw_in1 3 (by decide +kernel) rfl, lw_in4 141 rfl rfl, by decide +kernel⟩
theorem kk_4_258 : Cond.methodLink RX4 258 yX4_write ∈ lw_g := lw_in4 142 (by decide +kernel) rfl
set_option maxRecDepth 100000 in
theorem kmX4_write : XMV yX4_write cX4_write 3 none 2 := ⟨lw_in4 144 (by decide +kernel) rfl, lw_in0 16 (by decide +kernel) rfl, lw_in1 3 (by decide +kernel) rfl, lw_in4 145 rfl rfl, by decide +kernel⟩
theorem kk_4_261 : Cond.methodLink RX4 261 yX0_addEvent ∈ lw_g := lw_in4 146 (by decide +kernel) rfl
set_option maxRecDepth 100000 in
theorem kmX0_addEvent : XMV yX0_addEvent cX0_addEvent 3 none 2 := ⟨lw_in4 147 (by decide +kernel) rfl, lw_in4 148 (by decide +kernel) rfl, lw_in1 4 (by decide +kernel) rfl, lw_in4 149 rfl rfl, by decide +kernel⟩
theorem kk_4_233 : Cond.methodLink RX4 233 yX3_perform ∈ lw_g := lw_in4 150 (by decide +kernel) rfl
set_option maxRecDepth 100000 in
theorem kmX3_perform : XMV yX3_perform cX3_perform 3 none 2 := ⟨lw_in4 151 (by decide +kernel) rfl, lw_in4 152 (by decide +kernel) rfl, lw_in1 6 (by decide +kernel) rfl, lw_in4 153 rfl rfl, by decide +kernel⟩
theorem kk_3_84 : Cond.methodLink RX3 84 yX3_push ∈ lw_g := lw_in4 154 (by decide +kernel) rfl
theorem kk_3_88 : Cond.methodLink RX3 88 yX3_top ∈ lw_g := lw_in4 155 (by decide +kernel) rfl
theorem kk_3_92 : Cond.methodLink RX3 92 yX3_take ∈ lw_g := lw_in4 156 (by decide +kernel) rfl
theorem kk_3_95 : Cond.methodLink RX3 95 yX3_reach ∈ lw_g := lw_in4 157 (by decide +kernel) rfl
set_option maxRecDepth 100000 in
theorem kmX3_reach : XMV yX3_reach cX3_reach 2 none 1 := ⟨lw_in4 159 (by decide +kernel) rfl, lw_in0 17 (by decide +kernel) rfl, lw_in1 6 (by decide +kernel) rfl, lw_in4 160 rfl rfl, by decide +kernel⟩
theorem kk_3_78 : Cond.methodLink RX3 78 yJ9_max_7cf53 ∈ lw_g := lw_in4 161 (by decide +kernel) rfl
theorem kk_3_98 : Cond.methodLink RX3 98 yX3_calculate ∈ lw_g := lw_in4 162 (by decide +kernel) rfl
set_option maxRecDepth 100000 in
theorem kmX3_calculate : XMV yX3_calculate cX3_calculate 4 none 1 := ⟨lw_in4 164 (by decide +kernel) rfl, lw_in0 18 (by decide +kernel) rfl, lw_in1 6 (by decide +kernel) rfl, lw_in4 165 rfl rfl, by decide +kernel⟩
theorem kc_3_101 : Cond.constant RX3 101 (1000000 : Int32) ∈ lw_g := lw_in4 166 (by decide +kernel) rfl
theorem kk_3_102 : Cond.methodLink RX3 102 yJ9_floorMod_7cf53 ∈ lw_g := lw_in4 167 (by decide +kernel) rfl
set_option maxRecDepth 100000 in
theorem kmJ9_floorMod_7cf53 : XMS yJ9_floorMod_7cf53 cJ9_floorMod_7cf53 3 (some FieldType.int) 2 := ⟨lw_in4 168 (by decide +kernel) rfl, lw_in1 18 (by decide +kernel) rfl, lw_in4 169 rfl rfl, by decide +kernel⟩
theorem kc_3_105 : Cond.constantLong RX3 105 (1000000 : Int64) ∈ lw_g := lw_in4 170 (by decide +kernel) rfl
theorem kk_4_172 : Cond.methodLink RX4 172 yX4_undo ∈ lw_g := lw_in4 171 (by decide +kernel) rfl
set_option maxRecDepth 100000 in
theorem kmX4_undo : XMV yX4_undo cX4_undo 2 none 1 := ⟨lw_in4 173 (by decide +kernel) rfl, lw_in0 19 (by decide +kernel) rfl, lw_in1 3 (by decide +kernel) rfl, lw_in4 174 rfl rfl, by decide +kernel⟩
theorem kk_4_179 : Cond.methodLink RX4 179 yX6_copyFrom ∈ lw_g := lw_in4 175 (by decide +kernel) rfl
theorem kk_4_102 : Cond.methodLink RX4 102 yX4_settleGas ∈ lw_g := lw_in4 176 (by decide +kernel) rfl
set_option maxRecDepth 100000 in
theorem kmX4_settleGas : XMV yX4_settleGas cX4_settleGas 4 none 3 := ⟨lw_in4 178 (by decide +kernel) rfl, lw_in0 20 (by decide +kernel) rfl, lw_in1 3 (by decide +kernel) rfl, lw_in4 179 rfl rfl, by decide +kernel⟩
theorem kk_4_106 : Cond.methodLink RX4 106 yJ9_min_7cf53 ∈ lw_g := lw_in4 180 (by decide +kernel) rfl
theorem kk_1_131 : Cond.methodLink RX1 131 yX0_enter ∈ lw_g := lw_in4 181 (by decide +kernel) rfl
set_option maxRecDepth 100000 in
theorem kmX0_enter : XMV yX0_enter cX0_enter 4 none 3 := ⟨lw_in4 182 (by decide +kernel) rfl, lw_in4 183 (by decide +kernel) rfl, lw_in1 4 (by decide +kernel) rfl, lw_in4 184 rfl rfl, by decide +kernel⟩
theorem kc_0_77 : Cond.constant RX0 77 (100000 : Int32) ∈ lw_g := lw_in4 185 (by decide +kernel) rfl
theorem kk_1_135 : Cond.methodLink RX1 135 yX0_seal ∈ lw_g := lw_in4 187 (by decide +kernel) rfl
theorem kk_L_106 : Cond.methodLink RL 106 yL_votes ∈ lw_g := lw_in4 188 (by decide +kernel) rfl
theorem kk_L_39 : Cond.methodLink RL 39 yX10_vote ∈ lw_g := lw_in4 191 (by decide +kernel) rfl
set_option maxRecDepth 100000 in
theorem kmX10_vote : XMV yX10_vote cX10_vote 10 (some FieldType.boolean) 4 := ⟨lw_in4 192 (by decide +kernel) rfl, lw_in4 193 (by decide +kernel) rfl, lw_in1 1 (by decide +kernel) rfl, lw_in4 194 rfl rfl, by decide +kernel⟩
theorem kk_10_200 : Cond.methodLink RX10 200 yX0_comesFrom ∈ lw_g := lw_in4 195 (by decide +kernel) rfl
theorem kk_10_208 : Cond.methodLink RX10 208 yX2_validator ∈ lw_g := lw_in4 196 (by decide +kernel) rfl
set_option maxRecDepth 100000 in
theorem kmX2_validator : XMV yX2_validator cX2_validator 2 (some (FieldType.object "ForkBridge$Validator")) 1 := ⟨lw_in4 197 (by decide +kernel) rfl, lw_in4 198 (by decide +kernel) rfl, lw_in1 8 (by decide +kernel) rfl, lw_in4 199 rfl rfl, by decide +kernel⟩
theorem kk_10_222 : Cond.methodLink RX10 222 yX8_give ∈ lw_g := lw_in4 200 (by decide +kernel) rfl
set_option maxRecDepth 100000 in
theorem kmX8_give : XMV yX8_give cX8_give 5 (some FieldType.boolean) 2 := ⟨lw_in4 201 (by decide +kernel) rfl, lw_in4 202 (by decide +kernel) rfl, lw_in1 9 (by decide +kernel) rfl, lw_in4 203 rfl rfl, by decide +kernel⟩
theorem kk_8_32 : Cond.methodLink RX8 32 yX8_voteAt ∈ lw_g := lw_in4 204 (by decide +kernel) rfl
set_option maxRecDepth 100000 in
theorem kmX8_voteAt : XMV yX8_voteAt cX8_voteAt 2 (some (FieldType.object "ForkBridge$Vote")) 1 := ⟨lw_in4 205 (by decide +kernel) rfl, lw_in4 206 (by decide +kernel) rfl, lw_in1 9 (by decide +kernel) rfl, lw_in4 207 rfl rfl, by decide +kernel⟩
theorem kk_8_36 : Cond.methodLink RX8 36 yX9_become ∈ lw_g := lw_in4 208 (by decide +kernel) rfl
set_option maxRecDepth 100000 in
theorem kmX9_become : XMV yX9_become cX9_become 3 none 2 := ⟨lw_in4 209 (by decide +kernel) rfl, lw_in4 210 (by decide +kernel) rfl, lw_in1 10 (by decide +kernel) rfl, lw_in4 211 rfl rfl, by decide +kernel⟩
theorem kk_8_40 : Cond.methodLink RX8 40 yX9_clashesWith ∈ lw_g := lw_in4 212 (by decide +kernel) rfl
set_option maxRecDepth 100000 in
theorem kmX9_clashesWith : XMV yX9_clashesWith cX9_clashesWith 2 (some FieldType.boolean) 1 := ⟨lw_in4 213 (by decide +kernel) rfl, lw_in4 214 (by decide +kernel) rfl, lw_in1 10 (by decide +kernel) rfl, lw_in4 215 rfl rfl, by decide +kernel⟩
theorem kk_9_30 : Cond.methodLink RX9 30 yX9_surrounds ∈ lw_g := lw_in4 216 (by decide +kernel) rfl
set_option maxRecDepth 100000 in
theorem kmX9_surrounds : XMV yX9_surrounds cX9_surrounds 2 (some FieldType.boolean) 1 := ⟨lw_in4 218 (by decide +kernel) rfl, lw_in0 21 (by decide +kernel) rfl, lw_in1 10 (by decide +kernel) rfl, lw_in4 219 rfl rfl, by decide +kernel⟩
theorem kk_10_230 : Cond.methodLink RX10 230 yX2_settle ∈ lw_g := lw_in4 220 (by decide +kernel) rfl
set_option maxRecDepth 100000 in
theorem kmX2_settle : XMV yX2_settle cX2_settle 4 none 1 := ⟨lw_in4 221 (by decide +kernel) rfl, lw_in4 222 (by decide +kernel) rfl, lw_in1 8 (by decide +kernel) rfl, lw_in4 223 rfl rfl, by decide +kernel⟩
theorem kk_2_18 : Cond.methodLink RX2 18 yX2_justifyOne ∈ lw_g := lw_in4 224 (by decide +kernel) rfl
set_option maxRecDepth 100000 in
theorem kmX2_justifyOne : XMV yX2_justifyOne cX2_justifyOne 7 (some FieldType.boolean) 1 := ⟨lw_in4 226 (by decide +kernel) rfl, lw_in0 22 (by decide +kernel) rfl, lw_in1 8 (by decide +kernel) rfl, lw_in4 227 rfl rfl, by decide +kernel⟩
theorem kk_2_26 : Cond.methodLink RX2 26 yX8_countingVotes ∈ lw_g := lw_in4 228 (by decide +kernel) rfl
set_option maxRecDepth 100000 in
theorem kmX8_countingVotes : XMV yX8_countingVotes cX8_countingVotes 1 (some FieldType.int) 0 := ⟨lw_in4 229 (by decide +kernel) rfl, lw_in4 230 (by decide +kernel) rfl, lw_in1 9 (by decide +kernel) rfl, lw_in4 231 rfl rfl, by decide +kernel⟩
theorem kk_8_26 : Cond.methodLink RX8 26 yJ9_min_7cf53 ∈ lw_g := lw_in4 232 (by decide +kernel) rfl
theorem kk_2_30 : Cond.methodLink RX2 30 yX8_voteAt ∈ lw_g := lw_in4 233 (by decide +kernel) rfl
theorem kk_2_34 : Cond.methodLink RX2 34 yX2_justify ∈ lw_g := lw_in4 234 (by decide +kernel) rfl
set_option maxRecDepth 100000 in
theorem kmX2_justify : XMV yX2_justify cX2_justify 6 (some FieldType.boolean) 2 := ⟨lw_in4 236 (by decide +kernel) rfl, lw_in0 23 (by decide +kernel) rfl, lw_in1 8 (by decide +kernel) rfl, lw_in4 237 rfl rfl, by decide +kernel⟩
theorem kk_2_56 : Cond.methodLink RX2 56 yX2_carries ∈ lw_g := lw_in4 238 (by decide +kernel) rfl
set_option maxRecDepth 100000 in
theorem kmX2_carries : XMV yX2_carries cX2_carries 8 (some FieldType.boolean) 1 := ⟨lw_in5 0 (by decide +kernel) rfl, lw_in0 24 (by decide +kernel) rfl, lw_in1 8 (by decide +kernel) rfl, lw_in5 1 rfl rfl, by decide +kernel⟩
theorem kk_2_60 : Cond.methodLink RX2 60 yX8_stakeNow ∈ lw_g := lw_in5 2 (by decide +kernel) rfl
set_option maxRecDepth 100000 in
theorem kmX8_stakeNow : XMV yX8_stakeNow cX8_stakeNow 1 (some FieldType.int) 0 := ⟨lw_in5 3 (by decide +kernel) rfl, lw_in5 4 (by decide +kernel) rfl, lw_in1 9 (by decide +kernel) rfl, lw_in5 5 rfl rfl, by decide +kernel⟩
theorem kk_2_63 : Cond.methodLink RX2 63 yX8_supports ∈ lw_g := lw_in5 6 (by decide +kernel) rfl
set_option maxRecDepth 100000 in
theorem kmX8_supports : XMV yX8_supports cX8_supports 4 (some FieldType.boolean) 1 := ⟨lw_in5 7 (by decide +kernel) rfl, lw_in5 8 (by decide +kernel) rfl, lw_in1 9 (by decide +kernel) rfl, lw_in5 9 rfl rfl, by decide +kernel⟩
theorem kk_8_44 : Cond.methodLink RX8 44 yX8_countingVotes ∈ lw_g := lw_in5 10 (by decide +kernel) rfl
theorem kk_2_22 : Cond.methodLink RX2 22 yX2_moveFinal ∈ lw_g := lw_in5 11 (by decide +kernel) rfl
set_option maxRecDepth 100000 in
theorem kmX2_moveFinal : XMV yX2_moveFinal cX2_moveFinal 8 none 1 := ⟨lw_in5 13 (by decide +kernel) rfl, lw_in0 25 (by decide +kernel) rfl, lw_in1 8 (by decide +kernel) rfl, lw_in5 14 rfl rfl, by decide +kernel⟩
theorem kk_2_69 : Cond.methodLink RX2 69 yX0_comesFrom ∈ lw_g := lw_in5 15 (by decide +kernel) rfl
theorem kk_2_76 : Cond.methodLink RX2 76 yX2_justifiesNext ∈ lw_g := lw_in5 16 (by decide +kernel) rfl
set_option maxRecDepth 100000 in
theorem kmX2_justifiesNext : XMS yX2_justifiesNext cX2_justifiesNext 6 (some FieldType.boolean) 2 := ⟨lw_in5 17 (by decide +kernel) rfl, lw_in1 8 (by decide +kernel) rfl, lw_in5 18 rfl rfl, by decide +kernel⟩
theorem kk_L_78 : Cond.methodLink RL 78 yL_coins ∈ lw_g := lw_in5 19 (by decide +kernel) rfl
theorem kk_L_43 : Cond.methodLink RL 43 yX10_coins ∈ lw_g := lw_in5 22 (by decide +kernel) rfl
set_option maxRecDepth 100000 in
theorem kmX10_coins : XMV yX10_coins cX10_coins 4 (some FieldType.int) 3 := ⟨lw_in5 23 (by decide +kernel) rfl, lw_in5 24 (by decide +kernel) rfl, lw_in1 1 (by decide +kernel) rfl, lw_in5 25 rfl rfl, by decide +kernel⟩
theorem kk_10_162 : Cond.methodLink RX10 162 yX10_demandState_ ∈ lw_g := lw_in5 26 (by decide +kernel) rfl
set_option maxRecDepth 100000 in
theorem kmX10_demandState_ : XMV yX10_demandState_ cX10_demandState_ 5 (some (FieldType.object "ForkBridge$State")) 3 := ⟨lw_in5 28 (by decide +kernel) rfl, lw_in0 26 (by decide +kernel) rfl, lw_in1 1 (by decide +kernel) rfl, lw_in5 29 rfl rfl, by decide +kernel⟩
theorem kk_L_124 : Cond.methodLink RL 124 yL_tell ∈ lw_g := lw_in5 30 (by decide +kernel) rfl
set_option maxRecDepth 100000 in
theorem kmL_tell : XMS yL_tell cL_tell 5 (some (FieldType.array FieldType.int)) 2 := ⟨lw_in5 31 (by decide +kernel) rfl, lw_in1 0 (by decide +kernel) rfl, lw_in5 32 rfl rfl, by decide +kernel⟩
theorem kk_L_46 : Cond.methodLink RL 46 yX10_root ∈ lw_g := lw_in5 33 (by decide +kernel) rfl
set_option maxRecDepth 100000 in
theorem kmX10_root : XMV yX10_root cX10_root 3 (some FieldType.int) 2 := ⟨lw_in5 34 (by decide +kernel) rfl, lw_in5 35 (by decide +kernel) rfl, lw_in1 1 (by decide +kernel) rfl, lw_in5 36 rfl rfl, by decide +kernel⟩
theorem kk_L_49 : Cond.methodLink RL 49 yX10_isJustified ∈ lw_g := lw_in5 37 (by decide +kernel) rfl
set_option maxRecDepth 100000 in
theorem kmX10_isJustified : XMV yX10_isJustified cX10_isJustified 3 (some FieldType.boolean) 2 := ⟨lw_in5 38 (by decide +kernel) rfl, lw_in5 39 (by decide +kernel) rfl, lw_in1 1 (by decide +kernel) rfl, lw_in5 40 rfl rfl, by decide +kernel⟩
theorem kc_L_53 : Cond.constant RL 53 (2000000 : Int32) ∈ lw_g := lw_in5 41 (by decide +kernel) rfl
theorem kk_L_54 : Cond.methodLink RL 54 yX10_pool ∈ lw_g := lw_in5 42 (by decide +kernel) rfl
set_option maxRecDepth 100000 in
theorem kmX10_pool : XMV yX10_pool cX10_pool 2 (some FieldType.int) 1 := ⟨lw_in5 43 (by decide +kernel) rfl, lw_in5 44 (by decide +kernel) rfl, lw_in1 1 (by decide +kernel) rfl, lw_in5 45 rfl rfl, by decide +kernel⟩
theorem kk_10_116 : Cond.methodLink RX10 116 yX1_countWaiting ∈ lw_g := lw_in5 46 (by decide +kernel) rfl
theorem kk_L_58 : Cond.methodLink RL 58 yX10_head ∈ lw_g := lw_in5 47 (by decide +kernel) rfl
set_option maxRecDepth 100000 in
theorem kmX10_head : XMV yX10_head cX10_head 2 (some FieldType.int) 1 := ⟨lw_in5 48 (by decide +kernel) rfl, lw_in5 49 (by decide +kernel) rfl, lw_in1 1 (by decide +kernel) rfl, lw_in5 50 rfl rfl, by decide +kernel⟩
theorem kk_10_132 : Cond.methodLink RX10 132 yX1_headBlock ∈ lw_g := lw_in5 51 (by decide +kernel) rfl
theorem kk_L_61 : Cond.methodLink RL 61 yX10_lastFinal ∈ lw_g := lw_in5 52 (by decide +kernel) rfl
set_option maxRecDepth 100000 in
theorem kmX10_lastFinal : XMV yX10_lastFinal cX10_lastFinal 2 (some FieldType.int) 1 := ⟨lw_in5 53 (by decide +kernel) rfl, lw_in5 54 (by decide +kernel) rfl, lw_in1 1 (by decide +kernel) rfl, lw_in5 55 rfl rfl, by decide +kernel⟩
theorem kk_L_64 : Cond.methodLink RL 64 yX10_stake ∈ lw_g := lw_in5 56 (by decide +kernel) rfl
set_option maxRecDepth 100000 in
theorem kmX10_stake : XMV yX10_stake cX10_stake 4 (some FieldType.int) 2 := ⟨lw_in5 57 (by decide +kernel) rfl, lw_in5 58 (by decide +kernel) rfl, lw_in1 1 (by decide +kernel) rfl, lw_in5 59 rfl rfl, by decide +kernel⟩
theorem kk_10_237 : Cond.methodLink RX10 237 yX8_stakeNow ∈ lw_g := lw_in5 60 (by decide +kernel) rfl
theorem kk_L_132 : Cond.methodLink RL 132 yL_same ∈ lw_g := lw_in5 61 (by decide +kernel) rfl
set_option maxRecDepth 100000 in
theorem kmL_same : XMS yL_same cL_same 3 (some FieldType.boolean) 2 := ⟨lw_in5 62 (by decide +kernel) rfl, lw_in1 0 (by decide +kernel) rfl, lw_in5 63 rfl rfl, by decide +kernel⟩
theorem kk_L_136 : Cond.methodLink RL 136 yL_asks ∈ lw_g := lw_in5 64 (by decide +kernel) rfl
set_option maxRecDepth 100000 in
theorem kmL_asks : XMS yL_asks cL_asks 8 (some FieldType.boolean) 3 := ⟨lw_in5 65 (by decide +kernel) rfl, lw_in1 0 (by decide +kernel) rfl, lw_in5 66 rfl rfl, by decide +kernel⟩
theorem kk_L_81 : Cond.methodLink RL 81 yX10_burned ∈ lw_g := lw_in5 67 (by decide +kernel) rfl
set_option maxRecDepth 100000 in
theorem kmX10_burned : XMV yX10_burned cX10_burned 3 (some FieldType.int) 2 := ⟨lw_in5 68 (by decide +kernel) rfl, lw_in5 69 (by decide +kernel) rfl, lw_in1 1 (by decide +kernel) rfl, lw_in5 70 rfl rfl, by decide +kernel⟩
theorem kc_L_84 : Cond.constant RL 84 (80000 : Int32) ∈ lw_g := lw_in5 71 (by decide +kernel) rfl
theorem kk_L_85 : Cond.methodLink RL 85 yL_proved ∈ lw_g := lw_in5 72 (by decide +kernel) rfl
set_option maxRecDepth 100000 in
theorem kmL_proved : XMS yL_proved cL_proved 6 (some FieldType.boolean) 4 := ⟨lw_in5 73 (by decide +kernel) rfl, lw_in1 0 (by decide +kernel) rfl, lw_in5 74 rfl rfl, by decide +kernel⟩
theorem kk_L_67 : Cond.methodLink RL 67 yX10_leaf ∈ lw_g := lw_in5 75 (by decide +kernel) rfl
set_option maxRecDepth 100000 in
theorem kmX10_leaf : XMV yX10_leaf cX10_leaf 4 (some FieldType.int) 3 := ⟨lw_in5 76 (by decide +kernel) rfl, lw_in5 77 (by decide +kernel) rfl, lw_in1 1 (by decide +kernel) rfl, lw_in5 78 rfl rfl, by decide +kernel⟩
theorem kk_L_70 : Cond.methodLink RL 70 yX10_proof ∈ lw_g := lw_in5 79 (by decide +kernel) rfl
set_option maxRecDepth 100000 in
theorem kmX10_proof : XMV yX10_proof cX10_proof 5 (some FieldType.int) 4 := ⟨lw_in5 80 (by decide +kernel) rfl, lw_in5 81 (by decide +kernel) rfl, lw_in1 1 (by decide +kernel) rfl, lw_in5 82 rfl rfl, by decide +kernel⟩
theorem kk_L_73 : Cond.methodLink RL 73 yX10_proves ∈ lw_g := lw_in5 83 (by decide +kernel) rfl
set_option maxRecDepth 100000 in
theorem kmX10_proves : XMV yX10_proves cX10_proves 11 (some FieldType.boolean) 8 := ⟨lw_in5 84 (by decide +kernel) rfl, lw_in5 85 (by decide +kernel) rfl, lw_in1 1 (by decide +kernel) rfl, lw_in5 86 rfl rfl, by decide +kernel⟩
theorem kc_10_193 : Cond.constant RX10 193 (1000002 : Int32) ∈ lw_g := lw_in5 87 (by decide +kernel) rfl
theorem kk_10_194 : Cond.methodLink RX10 194 yX10_join ∈ lw_g := lw_in5 88 (by decide +kernel) rfl
set_option maxRecDepth 100000 in
theorem kmX10_join : XMS yX10_join cX10_join 3 (some FieldType.int) 3 := ⟨lw_in5 89 (by decide +kernel) rfl, lw_in1 1 (by decide +kernel) rfl, lw_in5 90 rfl rfl, by decide +kernel⟩
theorem kc_L_77 : Cond.constant RL 77 (1000003 : Int32) ∈ lw_g := lw_in5 91 (by decide +kernel) rfl
theorem kk_L_89 : Cond.methodLink RL 89 yX10_used ∈ lw_g := lw_in5 92 (by decide +kernel) rfl
set_option maxRecDepth 100000 in
theorem kmX10_used : XMV yX10_used cX10_used 3 (some FieldType.int) 2 := ⟨lw_in5 93 (by decide +kernel) rfl, lw_in5 94 (by decide +kernel) rfl, lw_in1 1 (by decide +kernel) rfl, lw_in5 95 rfl rfl, by decide +kernel⟩
theorem kk_L_92 : Cond.methodLink RL 92 yX10_base ∈ lw_g := lw_in5 96 (by decide +kernel) rfl
set_option maxRecDepth 100000 in
theorem kmX10_base : XMV yX10_base cX10_base 3 (some FieldType.int) 2 := ⟨lw_in5 97 (by decide +kernel) rfl, lw_in5 98 (by decide +kernel) rfl, lw_in1 1 (by decide +kernel) rfl, lw_in5 99 rfl rfl, by decide +kernel⟩
theorem kk_L_95 : Cond.methodLink RL 95 yX10_rootAnew ∈ lw_g := lw_in5 100 (by decide +kernel) rfl
set_option maxRecDepth 100000 in
theorem kmX10_rootAnew : XMV yX10_rootAnew cX10_rootAnew 4 (some FieldType.int) 2 := ⟨lw_in5 101 (by decide +kernel) rfl, lw_in5 102 (by decide +kernel) rfl, lw_in1 1 (by decide +kernel) rfl, lw_in5 103 rfl rfl, by decide +kernel⟩
theorem kk_10_185 : Cond.methodLink RX10 185 yX1_runAnew ∈ lw_g := lw_in5 104 (by decide +kernel) rfl
set_option maxRecDepth 100000 in
theorem kmX1_runAnew : XMV yX1_runAnew cX1_runAnew 9 (some FieldType.int) 2 := ⟨lw_in5 105 (by decide +kernel) rfl, lw_in5 106 (by decide +kernel) rfl, lw_in1 7 (by decide +kernel) rfl, lw_in5 107 rfl rfl, by decide +kernel⟩
theorem kk_1_160 : Cond.methodLink RX1 160 yX6_becomeFirst ∈ lw_g := lw_in5 108 (by decide +kernel) rfl
theorem kk_1_163 : Cond.methodLink RX1 163 yX0_imitate ∈ lw_g := lw_in5 109 (by decide +kernel) rfl
set_option maxRecDepth 100000 in
theorem kmX0_imitate : XMV yX0_imitate cX0_imitate 2 none 1 := ⟨lw_in5 110 (by decide +kernel) rfl, lw_in5 111 (by decide +kernel) rfl, lw_in1 4 (by decide +kernel) rfl, lw_in5 112 rfl rfl, by decide +kernel⟩
theorem kk_1_170 : Cond.methodLink RX1 170 yX0_transactionIn ∈ lw_g := lw_in5 113 (by decide +kernel) rfl
set_option maxRecDepth 100000 in
theorem kmX0_transactionIn : XMV yX0_transactionIn cX0_transactionIn 2 (some FieldType.int) 1 := ⟨lw_in5 114 (by decide +kernel) rfl, lw_in5 115 (by decide +kernel) rfl, lw_in1 4 (by decide +kernel) rfl, lw_in5 116 rfl rfl, by decide +kernel⟩
theorem kk_L_128 : Cond.methodLink RL 128 yL_act ∈ lw_g := lw_in5 118 (by decide +kernel) rfl
set_option maxRecDepth 100000 in
theorem kmL_act : XMS yL_act cL_act 10 (some FieldType.int) 4 := ⟨lw_in5 119 (by decide +kernel) rfl, lw_in1 0 (by decide +kernel) rfl, lw_in5 120 rfl rfl, by decide +kernel⟩
theorem kk_L_113 : Cond.methodLink RL 113 yX10_prune ∈ lw_g := lw_in5 121 (by decide +kernel) rfl
set_option maxRecDepth 100000 in
theorem kmX10_prune : XMV yX10_prune cX10_prune 2 (some FieldType.int) 1 := ⟨lw_in5 122 (by decide +kernel) rfl, lw_in5 123 (by decide +kernel) rfl, lw_in1 1 (by decide +kernel) rfl, lw_in5 124 rfl rfl, by decide +kernel⟩
theorem kk_10_197 : Cond.methodLink RX10 197 yX1_dropLower ∈ lw_g := lw_in5 125 (by decide +kernel) rfl
set_option maxRecDepth 100000 in
theorem kmX1_dropLower : XMV yX1_dropLower cX1_dropLower 7 (some FieldType.int) 0 := ⟨lw_in5 126 (by decide +kernel) rfl, lw_in5 127 (by decide +kernel) rfl, lw_in1 7 (by decide +kernel) rfl, lw_in5 128 rfl rfl, by decide +kernel⟩
def xnm : List (String × Nat × MethodName × String) := [(RX10, 9, yX5_init, "ForkBridge"), (RX0, 11, yX6_init, "ForkBridge"), (RX4, 38, yX3_init, "ForkBridge"), (RX3, 20, yX6_init, "ForkBridge"), (RX8, 17, yX9_init, "ForkBridge"), (RX6, 24, yX10_put, "ForkBridge"), (RX0, 82, yX10_at, "ForkBridge"), (RX0, 96, yX10_nodeOver, "ForkBridge"), (RX6, 46, yX10_at, "ForkBridge"), (RX6, 50, yX10_mix, "ForkBridge"), (RX5, 21, yX10_at, "ForkBridge"), (RX5, 29, yX10_put, "ForkBridge"), (RX7, 80, yX10_at, "ForkBridge"), (RX4, 129, yX10_at, "ForkBridge"), (RX4, 153, yX10_put, "ForkBridge"), (RX3, 50, yX10_put, "ForkBridge"), (RX3, 67, yX10_at, "ForkBridge"), (RX0, 78, yX10_put, "ForkBridge"), (RX1, 173, yX10_nodeOver, "ForkBridge")]
def xnf : List (String × Nat × String × String × String × String) := [("ForkBridge$Machine", 207, "ForkBridge", "STEP_GAS", "[I", "ForkBridge"), ("ForkBridge$Frame", 64, "ForkBridge", "TAKEN", "[I", "ForkBridge"), ("ForkBridge$Frame", 71, "ForkBridge", "PUSHED", "[I", "ForkBridge")]
theorem ke_10_9 : (RX10, 9, yX5_init, "ForkBridge") ∈ xnm := List.mem_of_getElem? (i := 0) rfl
theorem ke_0_11 : (RX0, 11, yX6_init, "ForkBridge") ∈ xnm := List.mem_of_getElem? (i := 1) rfl
theorem ke_4_38 : (RX4, 38, yX3_init, "ForkBridge") ∈ xnm := List.mem_of_getElem? (i := 2) rfl
theorem ke_3_20 : (RX3, 20, yX6_init, "ForkBridge") ∈ xnm := List.mem_of_getElem? (i := 3) rfl
theorem ke_8_17 : (RX8, 17, yX9_init, "ForkBridge") ∈ xnm := List.mem_of_getElem? (i := 4) rfl
theorem ke_6_24 : (RX6, 24, yX10_put, "ForkBridge") ∈ xnm := List.mem_of_getElem? (i := 5) rfl
theorem ke_0_82 : (RX0, 82, yX10_at, "ForkBridge") ∈ xnm := List.mem_of_getElem? (i := 6) rfl
theorem ke_0_96 : (RX0, 96, yX10_nodeOver, "ForkBridge") ∈ xnm := List.mem_of_getElem? (i := 7) rfl
theorem ke_6_46 : (RX6, 46, yX10_at, "ForkBridge") ∈ xnm := List.mem_of_getElem? (i := 8) rfl
theorem ke_6_50 : (RX6, 50, yX10_mix, "ForkBridge") ∈ xnm := List.mem_of_getElem? (i := 9) rfl
theorem ke_5_21 : (RX5, 21, yX10_at, "ForkBridge") ∈ xnm := List.mem_of_getElem? (i := 10) rfl
theorem ke_5_29 : (RX5, 29, yX10_put, "ForkBridge") ∈ xnm := List.mem_of_getElem? (i := 11) rfl
theorem ke_7_80 : (RX7, 80, yX10_at, "ForkBridge") ∈ xnm := List.mem_of_getElem? (i := 12) rfl
theorem ke_4_129 : (RX4, 129, yX10_at, "ForkBridge") ∈ xnm := List.mem_of_getElem? (i := 13) rfl
theorem ke_4_153 : (RX4, 153, yX10_put, "ForkBridge") ∈ xnm := List.mem_of_getElem? (i := 14) rfl
theorem ke_3_50 : (RX3, 50, yX10_put, "ForkBridge") ∈ xnm := List.mem_of_getElem? (i := 15) rfl
theorem ke_3_67 : (RX3, 67, yX10_at, "ForkBridge") ∈ xnm := List.mem_of_getElem? (i := 16) rfl
theorem ke_0_78 : (RX0, 78, yX10_put, "ForkBridge") ∈ xnm := List.mem_of_getElem? (i := 17) rfl
theorem ke_1_173 : (RX1, 173, yX10_nodeOver, "ForkBridge") ∈ xnm := List.mem_of_getElem? (i := 18) rfl
theorem kg_4_207 : ("ForkBridge$Machine", 207, "ForkBridge", "STEP_GAS", "[I", "ForkBridge") ∈ xnf := List.mem_of_getElem? (i := 0) rfl
theorem kg_3_64 : ("ForkBridge$Frame", 64, "ForkBridge", "TAKEN", "[I", "ForkBridge") ∈ xnf := List.mem_of_getElem? (i := 1) rfl
theorem kg_3_71 : ("ForkBridge$Frame", 71, "ForkBridge", "PUSHED", "[I", "ForkBridge") ∈ xnf := List.mem_of_getElem? (i := 2) rfl
theorem xnm_tbl : ∀ q ∈ xnm, Cond.methodLinkNest q.1 q.2.1 q.2.2.1 q.2.2.2 ∈ lw_tbl := by
  intro q hq
  simp only [xnm, List.mem_cons, List.not_mem_nil, or_false] at hq
  rcases hq with rfl | rfl | rfl | rfl | rfl | rfl | rfl | rfl | rfl | rfl | rfl | rfl | rfl | rfl | rfl | rfl | rfl | rfl | rfl
  · exact List.mem_of_getElem? (i := 57) (by decide +kernel)
  · exact List.mem_of_getElem? (i := 88) (by decide +kernel)
  · exact List.mem_of_getElem? (i := 203) (by decide +kernel)
  · exact List.mem_of_getElem? (i := 208) (by decide +kernel)
  · exact List.mem_of_getElem? (i := 316) (by decide +kernel)
  · exact List.mem_of_getElem? (i := 423) (by decide +kernel)
  · exact List.mem_of_getElem? (i := 438) (by decide +kernel)
  · exact List.mem_of_getElem? (i := 444) (by decide +kernel)
  · exact List.mem_of_getElem? (i := 451) (by decide +kernel)
  · exact List.mem_of_getElem? (i := 452) (by decide +kernel)
  · exact List.mem_of_getElem? (i := 607) (by decide +kernel)
  · exact List.mem_of_getElem? (i := 631) (by decide +kernel)
  · exact List.mem_of_getElem? (i := 771) (by decide +kernel)
  · exact List.mem_of_getElem? (i := 800) (by decide +kernel)
  · exact List.mem_of_getElem? (i := 809) (by decide +kernel)
  · exact List.mem_of_getElem? (i := 818) (by decide +kernel)
  · exact List.mem_of_getElem? (i := 855) (by decide +kernel)
  · exact List.mem_of_getElem? (i := 933) (by decide +kernel)
  · exact List.mem_of_getElem? (i := 1104) (by decide +kernel)
theorem xnf_tbl : ∀ q ∈ xnf, Cond.fieldLinkNest q.1 q.2.1 q.2.2.1 q.2.2.2.1 q.2.2.2.2.1 q.2.2.2.2.2 ∈ lw_tbl := by
  intro q hq
  simp only [xnf, List.mem_cons, List.not_mem_nil, or_false] at hq
  rcases hq with rfl | rfl | rfl
  · exact List.mem_of_getElem? (i := 838) (by decide +kernel)
  · exact List.mem_of_getElem? (i := 860) (by decide +kernel)
  · exact List.mem_of_getElem? (i := 862) (by decide +kernel)
