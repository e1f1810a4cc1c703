theorem gx_gv {own C : String} {idx : Nat} {y : MethodName} {cd : Cond} (h1 : Cond.methodLink own idx y ∈ gx_tb) (h2 : Cond.instanceMethod y ∈ gx_tb) (h3 : Cond.selects C y y ∈ gx_tb) (h4 : Cond.initialized C ∈ gx_tb) (h5 : cd ∈ gx_tb) : GoodIn gx_tb (wsV own idx C y (cd :: gx_tb)) := by
  intro w hw
  have hm : w ∈ gx_tb := by
    simp only [wsV, List.mem_append, List.mem_cons, List.not_mem_nil, or_false] at hw
    rcases hw with (rfl | rfl | rfl | rfl) | rfl | hw
    · exact h1
    · exact h2
    · exact h3
    · exact h4
    · exact h5
    · exact hw
  exact ⟨hm, good_of_word (gx_tbg hm)⟩
theorem gx_gs {own : String} {idx : Nat} {y : MethodName} {cd : Cond} (h1 : Cond.methodLink own idx y ∈ gx_tb) (h2 : Cond.static y ∈ gx_tb) (h3 : Cond.initialized own ∈ gx_tb) (h4 : cd ∈ gx_tb) : GoodIn gx_tb (wsS own idx y (cd :: gx_tb)) := by
  intro w hw
  have hm : w ∈ gx_tb := by
    simp only [wsS, List.mem_append, List.mem_cons, List.not_mem_nil, or_false] at hw
    rcases hw with (rfl | rfl | rfl) | rfl | hw
    · exact h1
    · exact h2
    · exact h3
    · exact h4
    · exact hw
  exact ⟨hm, good_of_word (gx_tbg hm)⟩
theorem la_Bo_0 : u_lay R_Bo F_Bo 0 ∈ gx_tb := gx_m 156 (by decide +kernel) (by decide +kernel)
theorem la_Bo_1 : u_lay R_Bo F_Bo 1 ∈ gx_tb := gx_m 158 (by decide +kernel) (by decide +kernel)
theorem la_Bo_2 : u_lay R_Bo F_Bo 2 ∈ gx_tb := gx_m 160 (by decide +kernel) (by decide +kernel)
theorem la_Bo_3 : u_lay R_Bo F_Bo 3 ∈ gx_tb := gx_m 162 (by decide +kernel) (by decide +kernel)
theorem la_Bo_4 : u_lay R_Bo F_Bo 4 ∈ gx_tb := gx_m 164 (by decide +kernel) (by decide +kernel)
theorem la_Bo_5 : u_lay R_Bo F_Bo 5 ∈ gx_tb := gx_m 166 (by decide +kernel) (by decide +kernel)
theorem la_Bo : ∀ w ∈ u_ws R_Bo F_Bo (gx_N 0), w ∈ gx_tb := by
  intro w hw
  obtain ⟨k, hk, rfl⟩ := List.mem_map.mp hw
  have hk : k < 6 := List.mem_range.mp hk
  match k, hk with
  | 0, _ => exact la_Bo_0
  | 1, _ => exact la_Bo_1
  | 2, _ => exact la_Bo_2
  | 3, _ => exact la_Bo_3
  | 4, _ => exact la_Bo_4
  | 5, _ => exact la_Bo_5
  | k + 6, h => exact absurd h (by omega)
theorem cl_Bo : gx_Cl gx_tb 0 R_Bo F_Bo t_Bo := ⟨la_Bo, rfl, by decide +kernel, by decide +kernel, by decide +kernel⟩
theorem la_Qu_0 : u_lay R_Qu F_Qu 0 ∈ gx_tb := gx_m 32 (by decide +kernel) (by decide +kernel)
theorem la_Qu_1 : u_lay R_Qu F_Qu 1 ∈ gx_tb := gx_m 34 (by decide +kernel) (by decide +kernel)
theorem la_Qu_2 : u_lay R_Qu F_Qu 2 ∈ gx_tb := gx_m 36 (by decide +kernel) (by decide +kernel)
theorem la_Qu_3 : u_lay R_Qu F_Qu 3 ∈ gx_tb := gx_m 38 (by decide +kernel) (by decide +kernel)
theorem la_Qu_4 : u_lay R_Qu F_Qu 4 ∈ gx_tb := gx_m 40 (by decide +kernel) (by decide +kernel)
theorem la_Qu_5 : u_lay R_Qu F_Qu 5 ∈ gx_tb := gx_m 42 (by decide +kernel) (by decide +kernel)
theorem la_Qu : ∀ w ∈ u_ws R_Qu F_Qu (gx_N 1), w ∈ gx_tb := by
  intro w hw
  obtain ⟨k, hk, rfl⟩ := List.mem_map.mp hw
  have hk : k < 6 := List.mem_range.mp hk
  match k, hk with
  | 0, _ => exact la_Qu_0
  | 1, _ => exact la_Qu_1
  | 2, _ => exact la_Qu_2
  | 3, _ => exact la_Qu_3
  | 4, _ => exact la_Qu_4
  | 5, _ => exact la_Qu_5
  | k + 6, h => exact absurd h (by omega)
theorem cl_Qu : gx_Cl gx_tb 1 R_Qu F_Qu t_Qu := ⟨la_Qu, rfl, by decide +kernel, by decide +kernel, by decide +kernel⟩
theorem la_Jn_0 : u_lay R_Jn F_Jn 0 ∈ gx_tb := gx_m 145 (by decide +kernel) (by decide +kernel)
theorem la_Jn_1 : u_lay R_Jn F_Jn 1 ∈ gx_tb := gx_m 147 (by decide +kernel) (by decide +kernel)
theorem la_Jn : ∀ w ∈ u_ws R_Jn F_Jn (gx_N 2), w ∈ gx_tb := by
  intro w hw
  obtain ⟨k, hk, rfl⟩ := List.mem_map.mp hw
  have hk : k < 2 := List.mem_range.mp hk
  match k, hk with
  | 0, _ => exact la_Jn_0
  | 1, _ => exact la_Jn_1
  | k + 2, h => exact absurd h (by omega)
theorem cl_Jn : gx_Cl gx_tb 2 R_Jn F_Jn t_Jn := ⟨la_Jn, rfl, by decide +kernel, by decide +kernel, by decide +kernel⟩
theorem la_Ro_0 : u_lay R_Ro F_Ro 0 ∈ gx_tb := gx_m 126 (by decide +kernel) (by decide +kernel)
theorem la_Ro_1 : u_lay R_Ro F_Ro 1 ∈ gx_tb := gx_m 128 (by decide +kernel) (by decide +kernel)
theorem la_Ro_2 : u_lay R_Ro F_Ro 2 ∈ gx_tb := gx_m 130 (by decide +kernel) (by decide +kernel)
theorem la_Ro : ∀ w ∈ u_ws R_Ro F_Ro (gx_N 3), w ∈ gx_tb := by
  intro w hw
  obtain ⟨k, hk, rfl⟩ := List.mem_map.mp hw
  have hk : k < 3 := List.mem_range.mp hk
  match k, hk with
  | 0, _ => exact la_Ro_0
  | 1, _ => exact la_Ro_1
  | 2, _ => exact la_Ro_2
  | k + 3, h => exact absurd h (by omega)
theorem cl_Ro : gx_Cl gx_tb 3 R_Ro F_Ro t_Ro := ⟨la_Ro, rfl, by decide +kernel, by decide +kernel, by decide +kernel⟩
theorem la_Jb_0 : u_lay R_Jb F_Jb 0 ∈ gx_tb := gx_m 93 (by decide +kernel) (by decide +kernel)
theorem la_Jb_1 : u_lay R_Jb F_Jb 1 ∈ gx_tb := gx_m 95 (by decide +kernel) (by decide +kernel)
theorem la_Jb_2 : u_lay R_Jb F_Jb 2 ∈ gx_tb := gx_m 97 (by decide +kernel) (by decide +kernel)
theorem la_Jb_3 : u_lay R_Jb F_Jb 3 ∈ gx_tb := gx_m 99 (by decide +kernel) (by decide +kernel)
theorem la_Jb_4 : u_lay R_Jb F_Jb 4 ∈ gx_tb := gx_m 101 (by decide +kernel) (by decide +kernel)
theorem la_Jb_5 : u_lay R_Jb F_Jb 5 ∈ gx_tb := gx_m 103 (by decide +kernel) (by decide +kernel)
theorem la_Jb_6 : u_lay R_Jb F_Jb 6 ∈ gx_tb := gx_m 105 (by decide +kernel) (by decide +kernel)
theorem la_Jb_7 : u_lay R_Jb F_Jb 7 ∈ gx_tb := gx_m 107 (by decide +kernel) (by decide +kernel)
theorem la_Jb_8 : u_lay R_Jb F_Jb 8 ∈ gx_tb := gx_m 109 (by decide +kernel) (by decide +kernel)
theorem la_Jb_9 : u_lay R_Jb F_Jb 9 ∈ gx_tb := gx_m 111 (by decide +kernel) (by decide +kernel)
theorem la_Jb_10 : u_lay R_Jb F_Jb 10 ∈ gx_tb := gx_m 113 (by decide +kernel) (by decide +kernel)
theorem la_Jb_11 : u_lay R_Jb F_Jb 11 ∈ gx_tb := gx_m 115 (by decide +kernel) (by decide +kernel)
theorem la_Jb_12 : u_lay R_Jb F_Jb 12 ∈ gx_tb := gx_m 117 (by decide +kernel) (by decide +kernel)
theorem la_Jb_13 : u_lay R_Jb F_Jb 13 ∈ gx_tb := gx_m 119 (by decide +kernel) (by decide +kernel)
theorem la_Jb : ∀ w ∈ u_ws R_Jb F_Jb (gx_N 4), w ∈ gx_tb := by
  intro w hw
  obtain ⟨k, hk, rfl⟩ := List.mem_map.mp hw
  have hk : k < 14 := List.mem_range.mp hk
  match k, hk with
  | 0, _ => exact la_Jb_0
  | 1, _ => exact la_Jb_1
  | 2, _ => exact la_Jb_2
  | 3, _ => exact la_Jb_3
  | 4, _ => exact la_Jb_4
  | 5, _ => exact la_Jb_5
  | 6, _ => exact la_Jb_6
  | 7, _ => exact la_Jb_7
  | 8, _ => exact la_Jb_8
  | 9, _ => exact la_Jb_9
  | 10, _ => exact la_Jb_10
  | 11, _ => exact la_Jb_11
  | 12, _ => exact la_Jb_12
  | 13, _ => exact la_Jb_13
  | k + 14, h => exact absurd h (by omega)
theorem cl_Jb : gx_Cl gx_tb 4 R_Jb F_Jb t_Jb := ⟨la_Jb, rfl, by decide +kernel, by decide +kernel, by decide +kernel⟩
theorem la_Mo_0 : u_lay R_Mo F_Mo 0 ∈ gx_tb := gx_m 440 (by decide +kernel) (by decide +kernel)
theorem la_Mo_1 : u_lay R_Mo F_Mo 1 ∈ gx_tb := gx_m 442 (by decide +kernel) (by decide +kernel)
theorem la_Mo_2 : u_lay R_Mo F_Mo 2 ∈ gx_tb := gx_m 444 (by decide +kernel) (by decide +kernel)
theorem la_Mo_3 : u_lay R_Mo F_Mo 3 ∈ gx_tb := gx_m 446 (by decide +kernel) (by decide +kernel)
theorem la_Mo_4 : u_lay R_Mo F_Mo 4 ∈ gx_tb := gx_m 448 (by decide +kernel) (by decide +kernel)
theorem la_Mo_5 : u_lay R_Mo F_Mo 5 ∈ gx_tb := gx_m 450 (by decide +kernel) (by decide +kernel)
theorem la_Mo_6 : u_lay R_Mo F_Mo 6 ∈ gx_tb := gx_m 452 (by decide +kernel) (by decide +kernel)
theorem la_Mo_7 : u_lay R_Mo F_Mo 7 ∈ gx_tb := gx_m 454 (by decide +kernel) (by decide +kernel)
theorem la_Mo_8 : u_lay R_Mo F_Mo 8 ∈ gx_tb := gx_m 456 (by decide +kernel) (by decide +kernel)
theorem la_Mo_9 : u_lay R_Mo F_Mo 9 ∈ gx_tb := gx_m 458 (by decide +kernel) (by decide +kernel)
theorem la_Mo_10 : u_lay R_Mo F_Mo 10 ∈ gx_tb := gx_m 460 (by decide +kernel) (by decide +kernel)
theorem la_Mo_11 : u_lay R_Mo F_Mo 11 ∈ gx_tb := gx_m 462 (by decide +kernel) (by decide +kernel)
theorem la_Mo_12 : u_lay R_Mo F_Mo 12 ∈ gx_tb := gx_m 464 (by decide +kernel) (by decide +kernel)
theorem la_Mo_13 : u_lay R_Mo F_Mo 13 ∈ gx_tb := gx_m 466 (by decide +kernel) (by decide +kernel)
theorem la_Mo_14 : u_lay R_Mo F_Mo 14 ∈ gx_tb := gx_m 468 (by decide +kernel) (by decide +kernel)
theorem la_Mo_15 : u_lay R_Mo F_Mo 15 ∈ gx_tb := gx_m 470 (by decide +kernel) (by decide +kernel)
theorem la_Mo : ∀ w ∈ u_ws R_Mo F_Mo (gx_N 5), w ∈ gx_tb := by
  intro w hw
  obtain ⟨k, hk, rfl⟩ := List.mem_map.mp hw
  have hk : k < 16 := List.mem_range.mp hk
  match k, hk with
  | 0, _ => exact la_Mo_0
  | 1, _ => exact la_Mo_1
  | 2, _ => exact la_Mo_2
  | 3, _ => exact la_Mo_3
  | 4, _ => exact la_Mo_4
  | 5, _ => exact la_Mo_5
  | 6, _ => exact la_Mo_6
  | 7, _ => exact la_Mo_7
  | 8, _ => exact la_Mo_8
  | 9, _ => exact la_Mo_9
  | 10, _ => exact la_Mo_10
  | 11, _ => exact la_Mo_11
  | 12, _ => exact la_Mo_12
  | 13, _ => exact la_Mo_13
  | 14, _ => exact la_Mo_14
  | 15, _ => exact la_Mo_15
  | k + 16, h => exact absurd h (by omega)
theorem cl_Mo : gx_Cl gx_tb 5 R_Mo F_Mo t_Mo := ⟨la_Mo, rfl, by decide +kernel, by decide +kernel, by decide +kernel⟩
theorem fl_Bo_9 : Cond.fieldLink R_Bo 9 R_Bo (F_Bo 0).2.1 (F_Bo 0).2.2.1 ∈ gx_tb := gx_m 150 (by decide +kernel) (by decide +kernel)
theorem fl_Bo_15 : Cond.fieldLink R_Bo 15 R_Bo (F_Bo 1).2.1 (F_Bo 1).2.2.1 ∈ gx_tb := gx_m 151 (by decide +kernel) (by decide +kernel)
theorem fl_Bo_23 : Cond.fieldLink R_Bo 23 R_Bo (F_Bo 2).2.1 (F_Bo 2).2.2.1 ∈ gx_tb := gx_m 152 (by decide +kernel) (by decide +kernel)
theorem fl_Bo_30 : Cond.fieldLink R_Bo 30 R_Bo (F_Bo 3).2.1 (F_Bo 3).2.2.1 ∈ gx_tb := gx_m 153 (by decide +kernel) (by decide +kernel)
theorem fl_Bo_34 : Cond.fieldLink R_Bo 34 R_Bo (F_Bo 4).2.1 (F_Bo 4).2.2.1 ∈ gx_tb := gx_m 154 (by decide +kernel) (by decide +kernel)
theorem fl_Bo_38 : Cond.fieldLink R_Bo 38 R_Bo (F_Bo 5).2.1 (F_Bo 5).2.2.1 ∈ gx_tb := gx_m 155 (by decide +kernel) (by decide +kernel)
theorem fl_Bo_60 : Cond.fieldLink R_Bo 60 R_Jb (F_Jb 3).2.1 (F_Jb 3).2.2.1 ∈ gx_tb := gx_m 64 (by decide +kernel) (by decide +kernel)
theorem fl_Bo_65 : Cond.fieldLink R_Bo 65 R_Jb (F_Jb 4).2.1 (F_Jb 4).2.2.1 ∈ gx_tb := gx_m 67 (by decide +kernel) (by decide +kernel)
theorem fl_Bo_68 : Cond.fieldLink R_Bo 68 R_Jb (F_Jb 5).2.1 (F_Jb 5).2.2.1 ∈ gx_tb := gx_m 69 (by decide +kernel) (by decide +kernel)
theorem fl_Bo_83 : Cond.fieldLink R_Bo 83 R_Jb (F_Jb 0).2.1 (F_Jb 0).2.2.1 ∈ gx_tb := gx_m 59 (by decide +kernel) (by decide +kernel)
theorem fl_Bo_94 : Cond.fieldLink R_Bo 94 R_Jb (F_Jb 7).2.1 (F_Jb 7).2.2.1 ∈ gx_tb := gx_m 75 (by decide +kernel) (by decide +kernel)
theorem fl_Bo_97 : Cond.fieldLink R_Bo 97 R_Jb (F_Jb 10).2.1 (F_Jb 10).2.2.1 ∈ gx_tb := gx_m 84 (by decide +kernel) (by decide +kernel)
theorem fl_Bo_100 : Cond.fieldLink R_Bo 100 R_Jb (F_Jb 8).2.1 (F_Jb 8).2.2.1 ∈ gx_tb := gx_m 78 (by decide +kernel) (by decide +kernel)
theorem fl_Bo_103 : Cond.fieldLink R_Bo 103 R_Jb (F_Jb 9).2.1 (F_Jb 9).2.2.1 ∈ gx_tb := gx_m 81 (by decide +kernel) (by decide +kernel)
theorem fl_Bo_130 : Cond.fieldLink R_Bo 130 R_Jb (F_Jb 12).2.1 (F_Jb 12).2.2.1 ∈ gx_tb := gx_m 89 (by decide +kernel) (by decide +kernel)
theorem fl_Bo_143 : Cond.fieldLink R_Bo 143 R_Jb (F_Jb 6).2.1 (F_Jb 6).2.2.1 ∈ gx_tb := gx_m 73 (by decide +kernel) (by decide +kernel)
theorem fl_Bo_166 : Cond.fieldLink R_Bo 166 R_Jb (F_Jb 11).2.1 (F_Jb 11).2.2.1 ∈ gx_tb := gx_m 87 (by decide +kernel) (by decide +kernel)
theorem fl_Bo_179 : Cond.fieldLink R_Bo 179 R_Qu (F_Qu 3).2.1 (F_Qu 3).2.2.1 ∈ gx_tb := gx_m 29 (by decide +kernel) (by decide +kernel)
theorem fl_Bo_182 : Cond.fieldLink R_Bo 182 R_Ro (F_Ro 1).2.1 (F_Ro 1).2.2.1 ∈ gx_tb := gx_m 124 (by decide +kernel) (by decide +kernel)
theorem fl_Bo_185 : Cond.fieldLink R_Bo 185 R_Jn (F_Jn 1).2.1 (F_Jn 1).2.2.1 ∈ gx_tb := gx_m 144 (by decide +kernel) (by decide +kernel)
theorem fl_Bo_194 : Cond.fieldLink R_Bo 194 R_Qu (F_Qu 1).2.1 (F_Qu 1).2.2.1 ∈ gx_tb := gx_m 26 (by decide +kernel) (by decide +kernel)
theorem fl_Bo_197 : Cond.fieldLink R_Bo 197 R_Qu (F_Qu 0).2.1 (F_Qu 0).2.2.1 ∈ gx_tb := gx_m 24 (by decide +kernel) (by decide +kernel)
theorem fl_Jb_15 : Cond.fieldLink R_Jb 15 R_Jb (F_Jb 1).2.1 (F_Jb 1).2.2.1 ∈ gx_tb := gx_m 60 (by decide +kernel) (by decide +kernel)
theorem fl_Jb_18 : Cond.fieldLink R_Jb 18 R_Jb (F_Jb 2).2.1 (F_Jb 2).2.2.1 ∈ gx_tb := gx_m 62 (by decide +kernel) (by decide +kernel)
theorem fl_Jb_21 : Cond.fieldLink R_Jb 21 R_Jb (F_Jb 3).2.1 (F_Jb 3).2.2.1 ∈ gx_tb := gx_m 63 (by decide +kernel) (by decide +kernel)
theorem fl_Jb_24 : Cond.fieldLink R_Jb 24 R_Jb (F_Jb 4).2.1 (F_Jb 4).2.2.1 ∈ gx_tb := gx_m 66 (by decide +kernel) (by decide +kernel)
theorem fl_Jb_27 : Cond.fieldLink R_Jb 27 R_Jb (F_Jb 5).2.1 (F_Jb 5).2.2.1 ∈ gx_tb := gx_m 68 (by decide +kernel) (by decide +kernel)
theorem fl_Jb_30 : Cond.fieldLink R_Jb 30 R_Jb (F_Jb 6).2.1 (F_Jb 6).2.2.1 ∈ gx_tb := gx_m 71 (by decide +kernel) (by decide +kernel)
theorem fl_Jb_33 : Cond.fieldLink R_Jb 33 R_Jb (F_Jb 7).2.1 (F_Jb 7).2.2.1 ∈ gx_tb := gx_m 74 (by decide +kernel) (by decide +kernel)
theorem fl_Jb_36 : Cond.fieldLink R_Jb 36 R_Jb (F_Jb 8).2.1 (F_Jb 8).2.2.1 ∈ gx_tb := gx_m 76 (by decide +kernel) (by decide +kernel)
theorem fl_Jb_39 : Cond.fieldLink R_Jb 39 R_Jb (F_Jb 9).2.1 (F_Jb 9).2.2.1 ∈ gx_tb := gx_m 79 (by decide +kernel) (by decide +kernel)
theorem fl_Jb_43 : Cond.fieldLink R_Jb 43 R_Jb (F_Jb 10).2.1 (F_Jb 10).2.2.1 ∈ gx_tb := gx_m 82 (by decide +kernel) (by decide +kernel)
theorem fl_Jb_46 : Cond.fieldLink R_Jb 46 R_Jb (F_Jb 11).2.1 (F_Jb 11).2.2.1 ∈ gx_tb := gx_m 85 (by decide +kernel) (by decide +kernel)
theorem fl_Jb_49 : Cond.fieldLink R_Jb 49 R_Jb (F_Jb 12).2.1 (F_Jb 12).2.2.1 ∈ gx_tb := gx_m 88 (by decide +kernel) (by decide +kernel)
theorem fl_Jb_52 : Cond.fieldLink R_Jb 52 R_Jb (F_Jb 13).2.1 (F_Jb 13).2.2.1 ∈ gx_tb := gx_m 91 (by decide +kernel) (by decide +kernel)
theorem fl_Jn_11 : Cond.fieldLink R_Jn 11 R_Jn (F_Jn 0).2.1 (F_Jn 0).2.2.1 ∈ gx_tb := gx_m 142 (by decide +kernel) (by decide +kernel)
theorem fl_Jn_18 : Cond.fieldLink R_Jn 18 R_Jn (F_Jn 1).2.1 (F_Jn 1).2.2.1 ∈ gx_tb := gx_m 143 (by decide +kernel) (by decide +kernel)
theorem fl_Qu_7 : Cond.fieldLink R_Qu 7 R_Qu (F_Qu 0).2.1 (F_Qu 0).2.2.1 ∈ gx_tb := gx_m 23 (by decide +kernel) (by decide +kernel)
theorem fl_Qu_13 : Cond.fieldLink R_Qu 13 R_Qu (F_Qu 4).2.1 (F_Qu 4).2.2.1 ∈ gx_tb := gx_m 30 (by decide +kernel) (by decide +kernel)
theorem fl_Qu_16 : Cond.fieldLink R_Qu 16 R_Qu (F_Qu 2).2.1 (F_Qu 2).2.2.1 ∈ gx_tb := gx_m 27 (by decide +kernel) (by decide +kernel)
theorem fl_Qu_19 : Cond.fieldLink R_Qu 19 R_Qu (F_Qu 5).2.1 (F_Qu 5).2.2.1 ∈ gx_tb := gx_m 31 (by decide +kernel) (by decide +kernel)
theorem fl_Qu_25 : Cond.fieldLink R_Qu 25 R_Qu (F_Qu 1).2.1 (F_Qu 1).2.2.1 ∈ gx_tb := gx_m 25 (by decide +kernel) (by decide +kernel)
theorem fl_Qu_28 : Cond.fieldLink R_Qu 28 R_Qu (F_Qu 3).2.1 (F_Qu 3).2.2.1 ∈ gx_tb := gx_m 28 (by decide +kernel) (by decide +kernel)
theorem fl_Ro_11 : Cond.fieldLink R_Ro 11 R_Ro (F_Ro 0).2.1 (F_Ro 0).2.2.1 ∈ gx_tb := gx_m 122 (by decide +kernel) (by decide +kernel)
theorem fl_Ro_20 : Cond.fieldLink R_Ro 20 R_Ro (F_Ro 1).2.1 (F_Ro 1).2.2.1 ∈ gx_tb := gx_m 123 (by decide +kernel) (by decide +kernel)
theorem fl_Ro_24 : Cond.fieldLink R_Ro 24 R_Ro (F_Ro 2).2.1 (F_Ro 2).2.2.1 ∈ gx_tb := gx_m 125 (by decide +kernel) (by decide +kernel)
theorem fl_Ro_35 : Cond.fieldLink R_Ro 35 R_Jb (F_Jb 10).2.1 (F_Jb 10).2.2.1 ∈ gx_tb := gx_m 83 (by decide +kernel) (by decide +kernel)
theorem fl_Ro_38 : Cond.fieldLink R_Ro 38 R_Jb (F_Jb 13).2.1 (F_Jb 13).2.2.1 ∈ gx_tb := gx_m 92 (by decide +kernel) (by decide +kernel)
theorem fl_Ro_41 : Cond.fieldLink R_Ro 41 R_Jb (F_Jb 9).2.1 (F_Jb 9).2.2.1 ∈ gx_tb := gx_m 80 (by decide +kernel) (by decide +kernel)
theorem fl_Ro_45 : Cond.fieldLink R_Ro 45 R_Jb (F_Jb 8).2.1 (F_Jb 8).2.2.1 ∈ gx_tb := gx_m 77 (by decide +kernel) (by decide +kernel)
theorem fl_Ro_52 : Cond.fieldLink R_Ro 52 R_Jb (F_Jb 6).2.1 (F_Jb 6).2.2.1 ∈ gx_tb := gx_m 72 (by decide +kernel) (by decide +kernel)
theorem fl_Ro_55 : Cond.fieldLink R_Ro 55 R_Jb (F_Jb 3).2.1 (F_Jb 3).2.2.1 ∈ gx_tb := gx_m 65 (by decide +kernel) (by decide +kernel)
theorem fl_Ro_87 : Cond.fieldLink R_Ro 87 R_Jb (F_Jb 11).2.1 (F_Jb 11).2.2.1 ∈ gx_tb := gx_m 86 (by decide +kernel) (by decide +kernel)
theorem fl_Ro_90 : Cond.fieldLink R_Ro 90 R_Jb (F_Jb 5).2.1 (F_Jb 5).2.2.1 ∈ gx_tb := gx_m 70 (by decide +kernel) (by decide +kernel)
theorem fl_Ro_96 : Cond.fieldLink R_Ro 96 R_Jb (F_Jb 12).2.1 (F_Jb 12).2.2.1 ∈ gx_tb := gx_m 90 (by decide +kernel) (by decide +kernel)
theorem fl_Ro_103 : Cond.fieldLink R_Ro 103 R_Jb (F_Jb 1).2.1 (F_Jb 1).2.2.1 ∈ gx_tb := gx_m 61 (by decide +kernel) (by decide +kernel)
theorem fl_Mo_7 : Cond.fieldLink R_Mo 7 R_Mo (F_Mo 1).2.1 (F_Mo 1).2.2.1 ∈ gx_tb := gx_m 425 (by decide +kernel) (by decide +kernel)
theorem fl_Mo_13 : Cond.fieldLink R_Mo 13 R_Mo (F_Mo 2).2.1 (F_Mo 2).2.2.1 ∈ gx_tb := gx_m 426 (by decide +kernel) (by decide +kernel)
theorem fl_Mo_17 : Cond.fieldLink R_Mo 17 R_Mo (F_Mo 3).2.1 (F_Mo 3).2.2.1 ∈ gx_tb := gx_m 427 (by decide +kernel) (by decide +kernel)
theorem fl_Mo_20 : Cond.fieldLink R_Mo 20 R_Mo (F_Mo 4).2.1 (F_Mo 4).2.2.1 ∈ gx_tb := gx_m 428 (by decide +kernel) (by decide +kernel)
theorem fl_Mo_23 : Cond.fieldLink R_Mo 23 R_Mo (F_Mo 5).2.1 (F_Mo 5).2.2.1 ∈ gx_tb := gx_m 429 (by decide +kernel) (by decide +kernel)
theorem fl_Mo_26 : Cond.fieldLink R_Mo 26 R_Mo (F_Mo 6).2.1 (F_Mo 6).2.2.1 ∈ gx_tb := gx_m 430 (by decide +kernel) (by decide +kernel)
theorem fl_Mo_29 : Cond.fieldLink R_Mo 29 R_Mo (F_Mo 7).2.1 (F_Mo 7).2.2.1 ∈ gx_tb := gx_m 431 (by decide +kernel) (by decide +kernel)
theorem fl_Mo_32 : Cond.fieldLink R_Mo 32 R_Mo (F_Mo 8).2.1 (F_Mo 8).2.2.1 ∈ gx_tb := gx_m 432 (by decide +kernel) (by decide +kernel)
theorem fl_Mo_35 : Cond.fieldLink R_Mo 35 R_Mo (F_Mo 9).2.1 (F_Mo 9).2.2.1 ∈ gx_tb := gx_m 433 (by decide +kernel) (by decide +kernel)
theorem fl_Mo_38 : Cond.fieldLink R_Mo 38 R_Mo (F_Mo 10).2.1 (F_Mo 10).2.2.1 ∈ gx_tb := gx_m 434 (by decide +kernel) (by decide +kernel)
theorem fl_Mo_41 : Cond.fieldLink R_Mo 41 R_Mo (F_Mo 11).2.1 (F_Mo 11).2.2.1 ∈ gx_tb := gx_m 435 (by decide +kernel) (by decide +kernel)
theorem fl_Mo_44 : Cond.fieldLink R_Mo 44 R_Mo (F_Mo 12).2.1 (F_Mo 12).2.2.1 ∈ gx_tb := gx_m 436 (by decide +kernel) (by decide +kernel)
theorem fl_Mo_47 : Cond.fieldLink R_Mo 47 R_Mo (F_Mo 13).2.1 (F_Mo 13).2.2.1 ∈ gx_tb := gx_m 437 (by decide +kernel) (by decide +kernel)
theorem fl_Mo_50 : Cond.fieldLink R_Mo 50 R_Mo (F_Mo 14).2.1 (F_Mo 14).2.2.1 ∈ gx_tb := gx_m 438 (by decide +kernel) (by decide +kernel)
theorem fl_Mo_53 : Cond.fieldLink R_Mo 53 R_Mo (F_Mo 15).2.1 (F_Mo 15).2.2.1 ∈ gx_tb := gx_m 439 (by decide +kernel) (by decide +kernel)
theorem fl_Mo_57 : Cond.fieldLink R_Mo 57 R_Mo (F_Mo 0).2.1 (F_Mo 0).2.2.1 ∈ gx_tb := gx_m 424 (by decide +kernel) (by decide +kernel)
abbrev rm_Jb_isLive : Room := { frames := 0, cells := 0, slots := 0, locals := 0 }
def w_Jb_isLive : List Cond := .code y_Jb_isLive b_Jb_isLive 1 (some .boolean) :: gx_tb
abbrev rm_Jb_isTimed : Room := { frames := 0, cells := 0, slots := 0, locals := 0 }
def w_Jb_isTimed : List Cond := .code y_Jb_isTimed b_Jb_isTimed 1 (some .boolean) :: gx_tb
abbrev rm_Jb_waitUntil : Room := { frames := 0, cells := 0, slots := 0, locals := 0 }
def w_Jb_waitUntil : List Cond := .code y_Jb_waitUntil b_Jb_waitUntil 3 none :: gx_tb
abbrev rm_Jb_retryDelay : Room := { frames := 1, cells := 0, slots := 0, locals := 21 }
def w_Jb_retryDelay : List Cond := .code y_Jb_retryDelay b_Jb_retryDelay 1 (some .int) :: gx_tb
abbrev rm_Jb_standsBefore : Room := { frames := 0, cells := 0, slots := 0, locals := 0 }
def w_Jb_standsBefore : List Cond := .code y_Jb_standsBefore b_Jb_standsBefore 2 (some .boolean) :: gx_tb
abbrev rm_Jb_begin : Room := { frames := 0, cells := 0, slots := 0, locals := 0 }
def w_Jb_begin : List Cond := .code y_Jb_begin b_Jb_begin 3 none :: gx_tb
abbrev rm_Jb_copyFrom : Room := { frames := 0, cells := 0, slots := 0, locals := 0 }
def w_Jb_copyFrom : List Cond := .code y_Jb_copyFrom b_Jb_copyFrom 2 none :: gx_tb
abbrev rm_Qu_restart : Room := { frames := 0, cells := 0, slots := 0, locals := 0 }
def w_Qu_restart : List Cond := .code y_Qu_restart b_Qu_restart 1 none :: gx_tb
abbrev rm_Qu_set : Room := { frames := 1, cells := 0, slots := 0, locals := 20 }
def w_Qu_set : List Cond := .code y_Qu_set b_Qu_set 5 none :: gx_tb
abbrev rm_Qu_canGive : Room := { frames := 0, cells := 0, slots := 0, locals := 0 }
def w_Qu_canGive : List Cond := .code y_Qu_canGive b_Qu_canGive 1 (some .boolean) :: gx_tb
abbrev rm_Qu_spendToken : Room := { frames := 0, cells := 0, slots := 0, locals := 0 }
def w_Qu_spendToken : List Cond := .code y_Qu_spendToken b_Qu_spendToken 1 none :: gx_tb
abbrev rm_Qu_refillBetween : Room := { frames := 1, cells := 0, slots := 0, locals := 21 }
def w_Qu_refillBetween : List Cond := .code y_Qu_refillBetween b_Qu_refillBetween 4 none :: gx_tb
abbrev rm_Ro_copyFrom : Room := { frames := 1, cells := 0, slots := 0, locals := 21 }
def w_Ro_copyFrom : List Cond := .code y_Ro_copyFrom b_Ro_copyFrom 3 none :: gx_tb
abbrev rm_Ro_find : Room := { frames := 0, cells := 0, slots := 0, locals := 0 }
def w_Ro_find : List Cond := .code y_Ro_find b_Ro_find 2 (some (.object R_Jb)) :: gx_tb
abbrev rm_Ro_make : Room := { frames := 1, cells := 0, slots := 0, locals := 22 }
def w_Ro_make : List Cond := .code y_Ro_make b_Ro_make 4 (some (.object R_Jb)) :: gx_tb
abbrev rm_Ro_enter : Room := { frames := 0, cells := 0, slots := 0, locals := 0 }
def w_Ro_enter : List Cond := .code y_Ro_enter b_Ro_enter 3 none :: gx_tb
abbrev rm_Ro_releaseIfComplete : Room := { frames := 1, cells := 0, slots := 0, locals := 22 }
def w_Ro_releaseIfComplete : List Cond := .code y_Ro_releaseIfComplete b_Ro_releaseIfComplete 2 none :: gx_tb
abbrev rm_Ro_releaseReserved : Room := { frames := 1, cells := 0, slots := 0, locals := 22 }
def w_Ro_releaseReserved : List Cond := .code y_Ro_releaseReserved b_Ro_releaseReserved 2 none :: gx_tb
abbrev rm_Ro_countIn : Room := { frames := 0, cells := 0, slots := 0, locals := 0 }
def w_Ro_countIn : List Cond := .code y_Ro_countIn b_Ro_countIn 4 (some .int) :: gx_tb
abbrev rm_Ro_oldestDead : Room := { frames := 0, cells := 0, slots := 0, locals := 0 }
def w_Ro_oldestDead : List Cond := .code y_Ro_oldestDead b_Ro_oldestDead 3 (some (.object R_Jb)) :: gx_tb
abbrev rm_Ro_bury : Room := { frames := 1, cells := 0, slots := 0, locals := 23 }
def w_Ro_bury : List Cond := .code y_Ro_bury b_Ro_bury 3 none :: gx_tb
abbrev rm_Ro_failReserved : Room := { frames := 2, cells := 0, slots := 0, locals := 45 }
def w_Ro_failReserved : List Cond := .code y_Ro_failReserved b_Ro_failReserved 3 none :: gx_tb
abbrev rm_Ro_nextDue : Room := { frames := 1, cells := 0, slots := 0, locals := 20 }
def w_Ro_nextDue : List Cond := .code y_Ro_nextDue b_Ro_nextDue 5 (some (.object R_Jb)) :: gx_tb
abbrev rm_Ro_settleDue : Room := { frames := 3, cells := 0, slots := 0, locals := 67 }
def w_Ro_settleDue : List Cond := .code y_Ro_settleDue b_Ro_settleDue 4 (some .int) :: gx_tb
abbrev rm_Ro_hasLiveKey : Room := { frames := 1, cells := 0, slots := 0, locals := 20 }
def w_Ro_hasLiveKey : List Cond := .code y_Ro_hasLiveKey b_Ro_hasLiveKey 3 (some .boolean) :: gx_tb
abbrev rm_Ro_reservedBy : Room := { frames := 0, cells := 0, slots := 0, locals := 0 }
def w_Ro_reservedBy : List Cond := .code y_Ro_reservedBy b_Ro_reservedBy 3 (some (.object R_Jb)) :: gx_tb
abbrev rm_Ro_nextInLine : Room := { frames := 1, cells := 0, slots := 0, locals := 21 }
def w_Ro_nextInLine : List Cond := .code y_Ro_nextInLine b_Ro_nextInLine 6 (some (.object R_Jb)) :: gx_tb
abbrev rm_Ro_inLine : Room := { frames := 2, cells := 0, slots := 0, locals := 46 }
def w_Ro_inLine : List Cond := .code y_Ro_inLine b_Ro_inLine 5 (some (.object R_Jb)) :: gx_tb
abbrev rm_Jn_flushAll : Room := { frames := 2, cells := 0, slots := 0, locals := 43 }
def w_Jn_flushAll : List Cond := .code y_Jn_flushAll b_Jn_flushAll 3 (some .int) :: gx_tb
abbrev rm_Jn_write : Room := { frames := 3, cells := 0, slots := 0, locals := 65 }
def w_Jn_write : List Cond := .code y_Jn_write b_Jn_write 2 none :: gx_tb
abbrev rm_Jn_restore : Room := { frames := 2, cells := 0, slots := 0, locals := 43 }
def w_Jn_restore : List Cond := .code y_Jn_restore b_Jn_restore 4 (some .int) :: gx_tb
abbrev rm_Bo_within : Room := { frames := 0, cells := 0, slots := 0, locals := 0 }
def w_Bo_within : List Cond := .code y_Bo_within b_Bo_within 3 (some .boolean) :: gx_tb
abbrev rm_Bo_isQueue : Room := { frames := 1, cells := 0, slots := 0, locals := 22 }
def w_Bo_isQueue : List Cond := .code y_Bo_isQueue b_Bo_isQueue 1 (some .boolean) :: gx_tb
abbrev rm_Bo_isWorker : Room := { frames := 1, cells := 0, slots := 0, locals := 22 }
def w_Bo_isWorker : List Cond := .code y_Bo_isWorker b_Bo_isWorker 1 (some .boolean) :: gx_tb
abbrev rm_Bo_numberOrNone : Room := { frames := 0, cells := 0, slots := 0, locals := 0 }
def w_Bo_numberOrNone : List Cond := .code y_Bo_numberOrNone b_Bo_numberOrNone 1 (some .int) :: gx_tb
abbrev rm_Bo_isOpen : Room := { frames := 2, cells := 0, slots := 0, locals := 46 }
def w_Bo_isOpen : List Cond := .code y_Bo_isOpen b_Bo_isOpen 2 (some .boolean) :: gx_tb
abbrev rm_Bo_firstOpenQueue : Room := { frames := 3, cells := 0, slots := 0, locals := 67 }
def w_Bo_firstOpenQueue : List Cond := .code y_Bo_firstOpenQueue b_Bo_firstOpenQueue 2 (some .int) :: gx_tb
abbrev rm_Bo_openQueueByCredit : Room := { frames := 3, cells := 0, slots := 0, locals := 67 }
def w_Bo_openQueueByCredit : List Cond := .code y_Bo_openQueueByCredit b_Bo_openQueueByCredit 4 (some .int) :: gx_tb
abbrev rm_Bo_queue : Room := { frames := 2, cells := 0, slots := 0, locals := 44 }
def w_Bo_queue : List Cond := .code y_Bo_queue b_Bo_queue 5 (some .int) :: gx_tb
abbrev rm_Bo_key : Room := { frames := 1, cells := 0, slots := 0, locals := 22 }
def w_Bo_key : List Cond := .code y_Bo_key b_Bo_key 2 (some .int) :: gx_tb
abbrev rm_Bo_submit : Room := { frames := 4, cells := 0, slots := 0, locals := 86 }
def w_Bo_submit : List Cond := .code y_Bo_submit b_Bo_submit 7 (some .int) :: gx_tb
abbrev rm_Bo_hold : Room := { frames := 4, cells := 0, slots := 0, locals := 86 }
def w_Bo_hold : List Cond := .code y_Bo_hold b_Bo_hold 4 (some .int) :: gx_tb
abbrev rm_Bo_join : Room := { frames := 4, cells := 0, slots := 0, locals := 86 }
def w_Bo_join : List Cond := .code y_Bo_join b_Bo_join 5 (some .int) :: gx_tb
abbrev rm_Bo_seal : Room := { frames := 4, cells := 0, slots := 0, locals := 86 }
def w_Bo_seal : List Cond := .code y_Bo_seal b_Bo_seal 3 (some .int) :: gx_tb
abbrev rm_Bo_take : Room := { frames := 4, cells := 0, slots := 0, locals := 90 }
def w_Bo_take : List Cond := .code y_Bo_take b_Bo_take 5 (some .int) :: gx_tb
abbrev rm_Bo_ack : Room := { frames := 4, cells := 0, slots := 0, locals := 86 }
def w_Bo_ack : List Cond := .code y_Bo_ack b_Bo_ack 4 (some .int) :: gx_tb
abbrev rm_Bo_fail : Room := { frames := 4, cells := 0, slots := 0, locals := 86 }
def w_Bo_fail : List Cond := .code y_Bo_fail b_Bo_fail 3 (some .int) :: gx_tb
abbrev rm_Bo_tick : Room := { frames := 4, cells := 0, slots := 0, locals := 90 }
def w_Bo_tick : List Cond := .code y_Bo_tick b_Bo_tick 3 (some .int) :: gx_tb
abbrev rm_Bo_revive : Room := { frames := 4, cells := 0, slots := 0, locals := 86 }
def w_Bo_revive : List Cond := .code y_Bo_revive b_Bo_revive 3 (some .int) :: gx_tb
abbrev rm_Bo_kill : Room := { frames := 4, cells := 0, slots := 0, locals := 86 }
def w_Bo_kill : List Cond := .code y_Bo_kill b_Bo_kill 3 (some .int) :: gx_tb
abbrev rm_Bo_flush : Room := { frames := 3, cells := 0, slots := 0, locals := 65 }
def w_Bo_flush : List Cond := .code y_Bo_flush b_Bo_flush 1 (some .int) :: gx_tb
abbrev rm_Bo_crash : Room := { frames := 4, cells := 0, slots := 0, locals := 90 }
def w_Bo_crash : List Cond := .code y_Bo_crash b_Bo_crash 4 (some .int) :: gx_tb
abbrev rm_Bo_state : Room := { frames := 1, cells := 0, slots := 0, locals := 21 }
def w_Bo_state : List Cond := .code y_Bo_state b_Bo_state 3 (some .int) :: gx_tb
abbrev rm_Bo_failures : Room := { frames := 1, cells := 0, slots := 0, locals := 21 }
def w_Bo_failures : List Cond := .code y_Bo_failures b_Bo_failures 3 (some .int) :: gx_tb
abbrev rm_Bo_due : Room := { frames := 1, cells := 0, slots := 0, locals := 21 }
def w_Bo_due : List Cond := .code y_Bo_due b_Bo_due 3 (some .int) :: gx_tb
abbrev rm_Bo_holding : Room := { frames := 2, cells := 0, slots := 0, locals := 42 }
def w_Bo_holding : List Cond := .code y_Bo_holding b_Bo_holding 2 (some .int) :: gx_tb
abbrev rm_Bo_line : Room := { frames := 3, cells := 0, slots := 0, locals := 70 }
def w_Bo_line : List Cond := .code y_Bo_line b_Bo_line 3 (some .int) :: gx_tb
abbrev rm_Bo_count : Room := { frames := 1, cells := 0, slots := 0, locals := 23 }
def w_Bo_count : List Cond := .code y_Bo_count b_Bo_count 2 (some .int) :: gx_tb
abbrev rm_Mo_out : Room := { frames := 0, cells := 0, slots := 0, locals := 0 }
def w_Mo_out : List Cond := .code y_Mo_out b_Mo_out 4 (some .boolean) :: gx_tb
abbrev rm_Mo_no : Room := { frames := 0, cells := 0, slots := 0, locals := 0 }
def w_Mo_no : List Cond := .code y_Mo_no b_Mo_no 2 (some .boolean) :: gx_tb
abbrev rm_Mo_of : Room := { frames := 0, cells := 0, slots := 0, locals := 0 }
def w_Mo_of : List Cond := .code y_Mo_of b_Mo_of 3 (some .int) :: gx_tb
abbrev rm_Mo_set : Room := { frames := 0, cells := 0, slots := 0, locals := 0 }
def w_Mo_set : List Cond := .code y_Mo_set b_Mo_set 4 none :: gx_tb
abbrev rm_Mo_store : Room := { frames := 0, cells := 0, slots := 0, locals := 0 }
def w_Mo_store : List Cond := .code y_Mo_store b_Mo_store 3 none :: gx_tb
abbrev rm_Mo_note : Room := { frames := 1, cells := 0, slots := 0, locals := 22 }
def w_Mo_note : List Cond := .code y_Mo_note b_Mo_note 1 none :: gx_tb
abbrev rm_Mo_flush : Room := { frames := 1, cells := 0, slots := 0, locals := 22 }
def w_Mo_flush : List Cond := .code y_Mo_flush b_Mo_flush 2 (some .int) :: gx_tb
abbrev rm_Mo_isLive : Room := { frames := 1, cells := 0, slots := 0, locals := 22 }
def w_Mo_isLive : List Cond := .code y_Mo_isLive b_Mo_isLive 3 (some .boolean) :: gx_tb
abbrev rm_Mo_ready : Room := { frames := 1, cells := 0, slots := 0, locals := 23 }
def w_Mo_ready : List Cond := .code y_Mo_ready b_Mo_ready 2 none :: gx_tb
abbrev rm_Mo_die : Room := { frames := 1, cells := 0, slots := 0, locals := 23 }
def w_Mo_die : List Cond := .code y_Mo_die b_Mo_die 5 none :: gx_tb
abbrev rm_Mo_failing : Room := { frames := 2, cells := 0, slots := 0, locals := 47 }
def w_Mo_failing : List Cond := .code y_Mo_failing b_Mo_failing 4 none :: gx_tb
abbrev rm_Mo_keyTaken : Room := { frames := 2, cells := 0, slots := 0, locals := 44 }
def w_Mo_keyTaken : List Cond := .code y_Mo_keyTaken b_Mo_keyTaken 3 (some .boolean) :: gx_tb
abbrev rm_Mo_make : Room := { frames := 1, cells := 0, slots := 0, locals := 23 }
def w_Mo_make : List Cond := .code y_Mo_make b_Mo_make 8 (some .int) :: gx_tb
abbrev rm_Mo_queue : Room := { frames := 1, cells := 0, slots := 0, locals := 23 }
def w_Mo_queue : List Cond := .code y_Mo_queue b_Mo_queue 5 (some .int) :: gx_tb
abbrev rm_Mo_key : Room := { frames := 1, cells := 0, slots := 0, locals := 23 }
def w_Mo_key : List Cond := .code y_Mo_key b_Mo_key 2 (some .int) :: gx_tb
abbrev rm_Mo_submit : Room := { frames := 3, cells := 0, slots := 0, locals := 66 }
def w_Mo_submit : List Cond := .code y_Mo_submit b_Mo_submit 7 (some .int) :: gx_tb
abbrev rm_Mo_hold : Room := { frames := 2, cells := 0, slots := 0, locals := 50 }
def w_Mo_hold : List Cond := .code y_Mo_hold b_Mo_hold 4 (some .int) :: gx_tb
abbrev rm_Mo_join : Room := { frames := 2, cells := 0, slots := 0, locals := 44 }
def w_Mo_join : List Cond := .code y_Mo_join b_Mo_join 3 (some .int) :: gx_tb
abbrev rm_Mo_seal : Room := { frames := 2, cells := 0, slots := 0, locals := 44 }
def w_Mo_seal : List Cond := .code y_Mo_seal b_Mo_seal 2 (some .int) :: gx_tb
abbrev rm_Mo_goesBefore : Room := { frames := 1, cells := 0, slots := 0, locals := 22 }
def w_Mo_goesBefore : List Cond := .code y_Mo_goesBefore b_Mo_goesBefore 3 (some .boolean) :: gx_tb
abbrev rm_Mo_inLine : Room := { frames := 2, cells := 0, slots := 0, locals := 44 }
def w_Mo_inLine : List Cond := .code y_Mo_inLine b_Mo_inLine 6 (some .int) :: gx_tb
abbrev rm_Mo_isOpen : Room := { frames := 3, cells := 0, slots := 0, locals := 69 }
def w_Mo_isOpen : List Cond := .code y_Mo_isOpen b_Mo_isOpen 2 (some .boolean) :: gx_tb
abbrev rm_Mo_choose : Room := { frames := 4, cells := 0, slots := 0, locals := 90 }
def w_Mo_choose : List Cond := .code y_Mo_choose b_Mo_choose 4 (some .int) :: gx_tb
abbrev rm_Mo_holding : Room := { frames := 1, cells := 0, slots := 0, locals := 23 }
def w_Mo_holding : List Cond := .code y_Mo_holding b_Mo_holding 3 (some .int) :: gx_tb
abbrev rm_Mo_take : Room := { frames := 5, cells := 0, slots := 0, locals := 113 }
def w_Mo_take : List Cond := .code y_Mo_take b_Mo_take 5 (some .int) :: gx_tb
abbrev rm_Mo_ack : Room := { frames := 2, cells := 0, slots := 0, locals := 45 }
def w_Mo_ack : List Cond := .code y_Mo_ack b_Mo_ack 4 (some .int) :: gx_tb
abbrev rm_Mo_fail : Room := { frames := 3, cells := 0, slots := 0, locals := 70 }
def w_Mo_fail : List Cond := .code y_Mo_fail b_Mo_fail 3 (some .int) :: gx_tb
abbrev rm_Mo_wake : Room := { frames := 3, cells := 0, slots := 0, locals := 70 }
def w_Mo_wake : List Cond := .code y_Mo_wake b_Mo_wake 8 (some .int) :: gx_tb
abbrev rm_Mo_tick : Room := { frames := 4, cells := 0, slots := 0, locals := 97 }
def w_Mo_tick : List Cond := .code y_Mo_tick b_Mo_tick 4 (some .int) :: gx_tb
abbrev rm_Mo_revive : Room := { frames := 3, cells := 0, slots := 0, locals := 66 }
def w_Mo_revive : List Cond := .code y_Mo_revive b_Mo_revive 2 (some .int) :: gx_tb
abbrev rm_Mo_kill : Room := { frames := 2, cells := 0, slots := 0, locals := 47 }
def w_Mo_kill : List Cond := .code y_Mo_kill b_Mo_kill 3 (some .int) :: gx_tb
abbrev rm_Mo_crash : Room := { frames := 4, cells := 0, slots := 0, locals := 97 }
def w_Mo_crash : List Cond := .code y_Mo_crash b_Mo_crash 5 (some .int) :: gx_tb
abbrev rm_Mo_state : Room := { frames := 1, cells := 0, slots := 0, locals := 22 }
def w_Mo_state : List Cond := .code y_Mo_state b_Mo_state 2 (some .int) :: gx_tb
abbrev rm_Mo_failures : Room := { frames := 1, cells := 0, slots := 0, locals := 22 }
def w_Mo_failures : List Cond := .code y_Mo_failures b_Mo_failures 2 (some .int) :: gx_tb
abbrev rm_Mo_due : Room := { frames := 1, cells := 0, slots := 0, locals := 22 }
def w_Mo_due : List Cond := .code y_Mo_due b_Mo_due 3 (some .int) :: gx_tb
abbrev rm_Mo_line : Room := { frames := 3, cells := 0, slots := 0, locals := 69 }
def w_Mo_line : List Cond := .code y_Mo_line b_Mo_line 4 (some .int) :: gx_tb
abbrev rm_Mo_count : Room := { frames := 1, cells := 0, slots := 0, locals := 23 }
def w_Mo_count : List Cond := .code y_Mo_count b_Mo_count 4 (some .int) :: gx_tb
theorem co_Jb_isLive : Cond.code y_Jb_isLive b_Jb_isLive 1 (some .boolean) ∈ gx_tb := gx_m 202 (by decide +kernel) (by decide +kernel)
theorem co_Jb_isTimed : Cond.code y_Jb_isTimed b_Jb_isTimed 1 (some .boolean) ∈ gx_tb := gx_m 348 (by decide +kernel) (by decide +kernel)
theorem co_Jb_waitUntil : Cond.code y_Jb_waitUntil b_Jb_waitUntil 3 none ∈ gx_tb := gx_m 218 (by decide +kernel) (by decide +kernel)
theorem co_Jb_retryDelay : Cond.code y_Jb_retryDelay b_Jb_retryDelay 1 (some .int) ∈ gx_tb := gx_m 323 (by decide +kernel) (by decide +kernel)
theorem co_Jb_standsBefore : Cond.code y_Jb_standsBefore b_Jb_standsBefore 2 (some .boolean) ∈ gx_tb := gx_m 287 (by decide +kernel) (by decide +kernel)
theorem co_Jb_begin : Cond.code y_Jb_begin b_Jb_begin 3 none ∈ gx_tb := gx_m 210 (by decide +kernel) (by decide +kernel)
theorem co_Jb_copyFrom : Cond.code y_Jb_copyFrom b_Jb_copyFrom 2 none ∈ gx_tb := gx_m 234 (by decide +kernel) (by decide +kernel)
theorem co_Qu_restart : Cond.code y_Qu_restart b_Qu_restart 1 none ∈ gx_tb := gx_m 186 (by decide +kernel) (by decide +kernel)
theorem co_Qu_set : Cond.code y_Qu_set b_Qu_set 5 none ∈ gx_tb := gx_m 182 (by decide +kernel) (by decide +kernel)
theorem co_Qu_canGive : Cond.code y_Qu_canGive b_Qu_canGive 1 (some .boolean) ∈ gx_tb := gx_m 279 (by decide +kernel) (by decide +kernel)
theorem co_Qu_spendToken : Cond.code y_Qu_spendToken b_Qu_spendToken 1 none ∈ gx_tb := gx_m 295 (by decide +kernel) (by decide +kernel)
theorem co_Qu_refillBetween : Cond.code y_Qu_refillBetween b_Qu_refillBetween 4 none ∈ gx_tb := gx_m 335 (by decide +kernel) (by decide +kernel)
theorem co_Ro_copyFrom : Cond.code y_Ro_copyFrom b_Ro_copyFrom 3 none ∈ gx_tb := gx_m 230 (by decide +kernel) (by decide +kernel)
theorem co_Ro_find : Cond.code y_Ro_find b_Ro_find 2 (some (.object R_Jb)) ∈ gx_tb := gx_m 246 (by decide +kernel) (by decide +kernel)
theorem co_Ro_make : Cond.code y_Ro_make b_Ro_make 4 (some (.object R_Jb)) ∈ gx_tb := gx_m 206 (by decide +kernel) (by decide +kernel)
theorem co_Ro_enter : Cond.code y_Ro_enter b_Ro_enter 3 none ∈ gx_tb := gx_m 214 (by decide +kernel) (by decide +kernel)
theorem co_Ro_releaseIfComplete : Cond.code y_Ro_releaseIfComplete b_Ro_releaseIfComplete 2 none ∈ gx_tb := gx_m 255 (by decide +kernel) (by decide +kernel)
theorem co_Ro_releaseReserved : Cond.code y_Ro_releaseReserved b_Ro_releaseReserved 2 none ∈ gx_tb := gx_m 379 (by decide +kernel) (by decide +kernel)
theorem co_Ro_countIn : Cond.code y_Ro_countIn b_Ro_countIn 4 (some .int) ∈ gx_tb := gx_m 319 (by decide +kernel) (by decide +kernel)
theorem co_Ro_oldestDead : Cond.code y_Ro_oldestDead b_Ro_oldestDead 3 (some (.object R_Jb)) ∈ gx_tb := gx_m 315 (by decide +kernel) (by decide +kernel)
theorem co_Ro_bury : Cond.code y_Ro_bury b_Ro_bury 3 none ∈ gx_tb := gx_m 311 (by decide +kernel) (by decide +kernel)
theorem co_Ro_failReserved : Cond.code y_Ro_failReserved b_Ro_failReserved 3 none ∈ gx_tb := gx_m 307 (by decide +kernel) (by decide +kernel)
theorem co_Ro_nextDue : Cond.code y_Ro_nextDue b_Ro_nextDue 5 (some (.object R_Jb)) ∈ gx_tb := gx_m 344 (by decide +kernel) (by decide +kernel)
theorem co_Ro_settleDue : Cond.code y_Ro_settleDue b_Ro_settleDue 4 (some .int) ∈ gx_tb := gx_m 340 (by decide +kernel) (by decide +kernel)
theorem co_Ro_hasLiveKey : Cond.code y_Ro_hasLiveKey b_Ro_hasLiveKey 3 (some .boolean) ∈ gx_tb := gx_m 198 (by decide +kernel) (by decide +kernel)
theorem co_Ro_reservedBy : Cond.code y_Ro_reservedBy b_Ro_reservedBy 3 (some (.object R_Jb)) ∈ gx_tb := gx_m 267 (by decide +kernel) (by decide +kernel)
theorem co_Ro_nextInLine : Cond.code y_Ro_nextInLine b_Ro_nextInLine 6 (some (.object R_Jb)) ∈ gx_tb := gx_m 283 (by decide +kernel) (by decide +kernel)
theorem co_Ro_inLine : Cond.code y_Ro_inLine b_Ro_inLine 5 (some (.object R_Jb)) ∈ gx_tb := gx_m 408 (by decide +kernel) (by decide +kernel)
theorem co_Jn_flushAll : Cond.code y_Jn_flushAll b_Jn_flushAll 3 (some .int) ∈ gx_tb := gx_m 226 (by decide +kernel) (by decide +kernel)
theorem co_Jn_write : Cond.code y_Jn_write b_Jn_write 2 none ∈ gx_tb := gx_m 222 (by decide +kernel) (by decide +kernel)
theorem co_Jn_restore : Cond.code y_Jn_restore b_Jn_restore 4 (some .int) ∈ gx_tb := gx_m 371 (by decide +kernel) (by decide +kernel)
theorem co_Bo_within : Cond.code y_Bo_within b_Bo_within 3 (some .boolean) ∈ gx_tb := gx_m 178 (by decide +kernel) (by decide +kernel)
theorem co_Bo_isQueue : Cond.code y_Bo_isQueue b_Bo_isQueue 1 (some .boolean) ∈ gx_tb := gx_m 175 (by decide +kernel) (by decide +kernel)
theorem co_Bo_isWorker : Cond.code y_Bo_isWorker b_Bo_isWorker 1 (some .boolean) ∈ gx_tb := gx_m 263 (by decide +kernel) (by decide +kernel)
theorem co_Bo_numberOrNone : Cond.code y_Bo_numberOrNone b_Bo_numberOrNone 1 (some .int) ∈ gx_tb := gx_m 400 (by decide +kernel) (by decide +kernel)
theorem co_Bo_isOpen : Cond.code y_Bo_isOpen b_Bo_isOpen 2 (some .boolean) ∈ gx_tb := gx_m 275 (by decide +kernel) (by decide +kernel)
theorem co_Bo_firstOpenQueue : Cond.code y_Bo_firstOpenQueue b_Bo_firstOpenQueue 2 (some .int) ∈ gx_tb := gx_m 271 (by decide +kernel) (by decide +kernel)
theorem co_Bo_openQueueByCredit : Cond.code y_Bo_openQueueByCredit b_Bo_openQueueByCredit 4 (some .int) ∈ gx_tb := gx_m 291 (by decide +kernel) (by decide +kernel)
theorem co_Bo_queue : Cond.code y_Bo_queue b_Bo_queue 5 (some .int) ∈ gx_tb := gx_m 172 (by decide +kernel) (by decide +kernel)
theorem co_Bo_key : Cond.code y_Bo_key b_Bo_key 2 (some .int) ∈ gx_tb := gx_m 190 (by decide +kernel) (by decide +kernel)
theorem co_Bo_submit : Cond.code y_Bo_submit b_Bo_submit 7 (some .int) ∈ gx_tb := gx_m 194 (by decide +kernel) (by decide +kernel)
theorem co_Bo_hold : Cond.code y_Bo_hold b_Bo_hold 4 (some .int) ∈ gx_tb := gx_m 238 (by decide +kernel) (by decide +kernel)
theorem co_Bo_join : Cond.code y_Bo_join b_Bo_join 5 (some .int) ∈ gx_tb := gx_m 242 (by decide +kernel) (by decide +kernel)
theorem co_Bo_seal : Cond.code y_Bo_seal b_Bo_seal 3 (some .int) ∈ gx_tb := gx_m 251 (by decide +kernel) (by decide +kernel)
theorem co_Bo_take : Cond.code y_Bo_take b_Bo_take 5 (some .int) ∈ gx_tb := gx_m 260 (by decide +kernel) (by decide +kernel)
theorem co_Bo_ack : Cond.code y_Bo_ack b_Bo_ack 4 (some .int) ∈ gx_tb := gx_m 299 (by decide +kernel) (by decide +kernel)
theorem co_Bo_fail : Cond.code y_Bo_fail b_Bo_fail 3 (some .int) ∈ gx_tb := gx_m 303 (by decide +kernel) (by decide +kernel)
theorem co_Bo_tick : Cond.code y_Bo_tick b_Bo_tick 3 (some .int) ∈ gx_tb := gx_m 331 (by decide +kernel) (by decide +kernel)
theorem co_Bo_revive : Cond.code y_Bo_revive b_Bo_revive 3 (some .int) ∈ gx_tb := gx_m 353 (by decide +kernel) (by decide +kernel)
theorem co_Bo_kill : Cond.code y_Bo_kill b_Bo_kill 3 (some .int) ∈ gx_tb := gx_m 357 (by decide +kernel) (by decide +kernel)
theorem co_Bo_flush : Cond.code y_Bo_flush b_Bo_flush 1 (some .int) ∈ gx_tb := gx_m 362 (by decide +kernel) (by decide +kernel)
theorem co_Bo_crash : Cond.code y_Bo_crash b_Bo_crash 4 (some .int) ∈ gx_tb := gx_m 367 (by decide +kernel) (by decide +kernel)
theorem co_Bo_state : Cond.code y_Bo_state b_Bo_state 3 (some .int) ∈ gx_tb := gx_m 384 (by decide +kernel) (by decide +kernel)
theorem co_Bo_failures : Cond.code y_Bo_failures b_Bo_failures 3 (some .int) ∈ gx_tb := gx_m 388 (by decide +kernel) (by decide +kernel)
theorem co_Bo_due : Cond.code y_Bo_due b_Bo_due 3 (some .int) ∈ gx_tb := gx_m 392 (by decide +kernel) (by decide +kernel)
theorem co_Bo_holding : Cond.code y_Bo_holding b_Bo_holding 2 (some .int) ∈ gx_tb := gx_m 397 (by decide +kernel) (by decide +kernel)
theorem co_Bo_line : Cond.code y_Bo_line b_Bo_line 3 (some .int) ∈ gx_tb := gx_m 404 (by decide +kernel) (by decide +kernel)
theorem co_Bo_count : Cond.code y_Bo_count b_Bo_count 2 (some .int) ∈ gx_tb := gx_m 413 (by decide +kernel) (by decide +kernel)
theorem co_Mo_out : Cond.code y_Mo_out b_Mo_out 4 (some .boolean) ∈ gx_tb := gx_m 490 (by decide +kernel) (by decide +kernel)
theorem co_Mo_no : Cond.code y_Mo_no b_Mo_no 2 (some .boolean) ∈ gx_tb := gx_m 538 (by decide +kernel) (by decide +kernel)
theorem co_Mo_of : Cond.code y_Mo_of b_Mo_of 3 (some .int) ∈ gx_tb := gx_m 510 (by decide +kernel) (by decide +kernel)
theorem co_Mo_set : Cond.code y_Mo_set b_Mo_set 4 none ∈ gx_tb := gx_m 518 (by decide +kernel) (by decide +kernel)
theorem co_Mo_store : Cond.code y_Mo_store b_Mo_store 3 none ∈ gx_tb := gx_m 482 (by decide +kernel) (by decide +kernel)
theorem co_Mo_note : Cond.code y_Mo_note b_Mo_note 1 none ∈ gx_tb := gx_m 526 (by decide +kernel) (by decide +kernel)
theorem co_Mo_flush : Cond.code y_Mo_flush b_Mo_flush 2 (some .int) ∈ gx_tb := gx_m 478 (by decide +kernel) (by decide +kernel)
theorem co_Mo_isLive : Cond.code y_Mo_isLive b_Mo_isLive 3 (some .boolean) ∈ gx_tb := gx_m 506 (by decide +kernel) (by decide +kernel)
theorem co_Mo_ready : Cond.code y_Mo_ready b_Mo_ready 2 none ∈ gx_tb := gx_m 522 (by decide +kernel) (by decide +kernel)
theorem co_Mo_die : Cond.code y_Mo_die b_Mo_die 5 none ∈ gx_tb := gx_m 582 (by decide +kernel) (by decide +kernel)
theorem co_Mo_failing : Cond.code y_Mo_failing b_Mo_failing 4 none ∈ gx_tb := gx_m 578 (by decide +kernel) (by decide +kernel)
theorem co_Mo_keyTaken : Cond.code y_Mo_keyTaken b_Mo_keyTaken 3 (some .boolean) ∈ gx_tb := gx_m 502 (by decide +kernel) (by decide +kernel)
theorem co_Mo_make : Cond.code y_Mo_make b_Mo_make 8 (some .int) ∈ gx_tb := gx_m 514 (by decide +kernel) (by decide +kernel)
theorem co_Mo_queue : Cond.code y_Mo_queue b_Mo_queue 5 (some .int) ∈ gx_tb := gx_m 486 (by decide +kernel) (by decide +kernel)
theorem co_Mo_key : Cond.code y_Mo_key b_Mo_key 2 (some .int) ∈ gx_tb := gx_m 494 (by decide +kernel) (by decide +kernel)
theorem co_Mo_submit : Cond.code y_Mo_submit b_Mo_submit 7 (some .int) ∈ gx_tb := gx_m 498 (by decide +kernel) (by decide +kernel)
theorem co_Mo_hold : Cond.code y_Mo_hold b_Mo_hold 4 (some .int) ∈ gx_tb := gx_m 530 (by decide +kernel) (by decide +kernel)
theorem co_Mo_join : Cond.code y_Mo_join b_Mo_join 3 (some .int) ∈ gx_tb := gx_m 534 (by decide +kernel) (by decide +kernel)
theorem co_Mo_seal : Cond.code y_Mo_seal b_Mo_seal 2 (some .int) ∈ gx_tb := gx_m 542 (by decide +kernel) (by decide +kernel)
theorem co_Mo_goesBefore : Cond.code y_Mo_goesBefore b_Mo_goesBefore 3 (some .boolean) ∈ gx_tb := gx_m 566 (by decide +kernel) (by decide +kernel)
theorem co_Mo_inLine : Cond.code y_Mo_inLine b_Mo_inLine 6 (some .int) ∈ gx_tb := gx_m 562 (by decide +kernel) (by decide +kernel)
theorem co_Mo_isOpen : Cond.code y_Mo_isOpen b_Mo_isOpen 2 (some .boolean) ∈ gx_tb := gx_m 558 (by decide +kernel) (by decide +kernel)
theorem co_Mo_choose : Cond.code y_Mo_choose b_Mo_choose 4 (some .int) ∈ gx_tb := gx_m 554 (by decide +kernel) (by decide +kernel)
theorem co_Mo_holding : Cond.code y_Mo_holding b_Mo_holding 3 (some .int) ∈ gx_tb := gx_m 550 (by decide +kernel) (by decide +kernel)
theorem co_Mo_take : Cond.code y_Mo_take b_Mo_take 5 (some .int) ∈ gx_tb := gx_m 546 (by decide +kernel) (by decide +kernel)
theorem co_Mo_ack : Cond.code y_Mo_ack b_Mo_ack 4 (some .int) ∈ gx_tb := gx_m 570 (by decide +kernel) (by decide +kernel)
theorem co_Mo_fail : Cond.code y_Mo_fail b_Mo_fail 3 (some .int) ∈ gx_tb := gx_m 574 (by decide +kernel) (by decide +kernel)
theorem co_Mo_wake : Cond.code y_Mo_wake b_Mo_wake 8 (some .int) ∈ gx_tb := gx_m 590 (by decide +kernel) (by decide +kernel)
theorem co_Mo_tick : Cond.code y_Mo_tick b_Mo_tick 4 (some .int) ∈ gx_tb := gx_m 586 (by decide +kernel) (by decide +kernel)
theorem co_Mo_revive : Cond.code y_Mo_revive b_Mo_revive 2 (some .int) ∈ gx_tb := gx_m 594 (by decide +kernel) (by decide +kernel)
theorem co_Mo_kill : Cond.code y_Mo_kill b_Mo_kill 3 (some .int) ∈ gx_tb := gx_m 598 (by decide +kernel) (by decide +kernel)
theorem co_Mo_crash : Cond.code y_Mo_crash b_Mo_crash 5 (some .int) ∈ gx_tb := gx_m 602 (by decide +kernel) (by decide +kernel)
theorem co_Mo_state : Cond.code y_Mo_state b_Mo_state 2 (some .int) ∈ gx_tb := gx_m 606 (by decide +kernel) (by decide +kernel)
theorem co_Mo_failures : Cond.code y_Mo_failures b_Mo_failures 2 (some .int) ∈ gx_tb := gx_m 610 (by decide +kernel) (by decide +kernel)
theorem co_Mo_due : Cond.code y_Mo_due b_Mo_due 3 (some .int) ∈ gx_tb := gx_m 614 (by decide +kernel) (by decide +kernel)
theorem co_Mo_line : Cond.code y_Mo_line b_Mo_line 4 (some .int) ∈ gx_tb := gx_m 619 (by decide +kernel) (by decide +kernel)
theorem co_Mo_count : Cond.code y_Mo_count b_Mo_count 4 (some .int) ∈ gx_tb := gx_m 623 (by decide +kernel) (by decide +kernel)
theorem in_Bo : Cond.initialized R_Bo ∈ gx_tb := gx_m 1 (by decide +kernel) (by decide +kernel)
theorem in_Qu : Cond.initialized R_Qu ∈ gx_tb := gx_m 2 (by decide +kernel) (by decide +kernel)
theorem in_Jn : Cond.initialized R_Jn ∈ gx_tb := gx_m 5 (by decide +kernel) (by decide +kernel)
theorem in_Ro : Cond.initialized R_Ro ∈ gx_tb := gx_m 3 (by decide +kernel) (by decide +kernel)
theorem in_Jb : Cond.initialized R_Jb ∈ gx_tb := gx_m 4 (by decide +kernel) (by decide +kernel)
theorem in_Mo : Cond.initialized R_Mo ∈ gx_tb := gx_m 6 (by decide +kernel) (by decide +kernel)
theorem in_Math : Cond.initialized "java/lang/Math" ∈ gx_tb := gx_m 7 (by decide +kernel) (by decide +kernel)
theorem co_Math_min : Cond.code Lib.Math.min.name Lib.Math.min.code 2 (some .int) ∈ gx_tb := gx_m 326 (by decide +kernel) (by decide +kernel)
theorem st_Math_min : Cond.static Lib.Math.min.name ∈ gx_tb := gx_m 325 (by decide +kernel) (by decide +kernel)
theorem co_Math_max : Cond.code Lib.Math.max.name Lib.Math.max.code 2 (some .int) ∈ gx_tb := gx_m 374 (by decide +kernel) (by decide +kernel)
theorem st_Math_max : Cond.static Lib.Math.max.name ∈ gx_tb := gx_m 373 (by decide +kernel) (by decide +kernel)
theorem ml_Jb_55 : Cond.methodLink R_Jb 55 Lib.Math.min.name ∈ gx_tb := gx_m 324 (by decide +kernel) (by decide +kernel)
theorem ml_Jn_30 : Cond.methodLink R_Jn 30 Lib.Math.max.name ∈ gx_tb := gx_m 372 (by decide +kernel) (by decide +kernel)
theorem ml_Jn_36 : Cond.methodLink R_Jn 36 Lib.Math.min.name ∈ gx_tb := gx_m 375 (by decide +kernel) (by decide +kernel)
theorem ml_Qu_31 : Cond.methodLink R_Qu 31 Lib.Math.min.name ∈ gx_tb := gx_m 336 (by decide +kernel) (by decide +kernel)
theorem st_Bo_isQueue : Cond.static y_Bo_isQueue ∈ gx_tb := gx_m 174 (by decide +kernel) (by decide +kernel)
theorem gi_Bo_41 : GoodIn gx_tb (wsS R_Bo 41 y_Bo_isQueue w_Bo_isQueue) := gx_gs (gx_m 173 (by decide +kernel) (by decide +kernel)) st_Bo_isQueue in_Bo co_Bo_isQueue
theorem st_Bo_within : Cond.static y_Bo_within ∈ gx_tb := gx_m 177 (by decide +kernel) (by decide +kernel)
theorem gi_Bo_45 : GoodIn gx_tb (wsS R_Bo 45 y_Bo_within w_Bo_within) := gx_gs (gx_m 176 (by decide +kernel) (by decide +kernel)) st_Bo_within in_Bo co_Bo_within
theorem im_Qu_set : Cond.instanceMethod y_Qu_set ∈ gx_tb := gx_m 180 (by decide +kernel) (by decide +kernel)
theorem se_Qu_set : Cond.selects R_Qu y_Qu_set y_Qu_set ∈ gx_tb := gx_m 181 (by decide +kernel) (by decide +kernel)
theorem gi_Bo_49 : GoodIn gx_tb (wsV R_Bo 49 R_Qu y_Qu_set w_Qu_set) := gx_gv (gx_m 179 (by decide +kernel) (by decide +kernel)) im_Qu_set se_Qu_set in_Qu co_Qu_set
theorem im_Ro_hasLiveKey : Cond.instanceMethod y_Ro_hasLiveKey ∈ gx_tb := gx_m 196 (by decide +kernel) (by decide +kernel)
theorem se_Ro_hasLiveKey : Cond.selects R_Ro y_Ro_hasLiveKey y_Ro_hasLiveKey ∈ gx_tb := gx_m 197 (by decide +kernel) (by decide +kernel)
theorem gi_Bo_53 : GoodIn gx_tb (wsV R_Bo 53 R_Ro y_Ro_hasLiveKey w_Ro_hasLiveKey) := gx_gv (gx_m 195 (by decide +kernel) (by decide +kernel)) im_Ro_hasLiveKey se_Ro_hasLiveKey in_Ro co_Ro_hasLiveKey
theorem im_Ro_make : Cond.instanceMethod y_Ro_make ∈ gx_tb := gx_m 204 (by decide +kernel) (by decide +kernel)
theorem se_Ro_make : Cond.selects R_Ro y_Ro_make y_Ro_make ∈ gx_tb := gx_m 205 (by decide +kernel) (by decide +kernel)
theorem gi_Bo_56 : GoodIn gx_tb (wsV R_Bo 56 R_Ro y_Ro_make w_Ro_make) := gx_gv (gx_m 203 (by decide +kernel) (by decide +kernel)) im_Ro_make se_Ro_make in_Ro co_Ro_make
theorem im_Ro_enter : Cond.instanceMethod y_Ro_enter ∈ gx_tb := gx_m 212 (by decide +kernel) (by decide +kernel)
theorem se_Ro_enter : Cond.selects R_Ro y_Ro_enter y_Ro_enter ∈ gx_tb := gx_m 213 (by decide +kernel) (by decide +kernel)
theorem gi_Bo_71 : GoodIn gx_tb (wsV R_Bo 71 R_Ro y_Ro_enter w_Ro_enter) := gx_gv (gx_m 211 (by decide +kernel) (by decide +kernel)) im_Ro_enter se_Ro_enter in_Ro co_Ro_enter
theorem im_Jb_waitUntil : Cond.instanceMethod y_Jb_waitUntil ∈ gx_tb := gx_m 216 (by decide +kernel) (by decide +kernel)
theorem se_Jb_waitUntil : Cond.selects R_Jb y_Jb_waitUntil y_Jb_waitUntil ∈ gx_tb := gx_m 217 (by decide +kernel) (by decide +kernel)
theorem gi_Bo_75 : GoodIn gx_tb (wsV R_Bo 75 R_Jb y_Jb_waitUntil w_Jb_waitUntil) := gx_gv (gx_m 215 (by decide +kernel) (by decide +kernel)) im_Jb_waitUntil se_Jb_waitUntil in_Jb co_Jb_waitUntil
theorem im_Jn_write : Cond.instanceMethod y_Jn_write ∈ gx_tb := gx_m 220 (by decide +kernel) (by decide +kernel)
theorem se_Jn_write : Cond.selects R_Jn y_Jn_write y_Jn_write ∈ gx_tb := gx_m 221 (by decide +kernel) (by decide +kernel)
theorem gi_Bo_79 : GoodIn gx_tb (wsV R_Bo 79 R_Jn y_Jn_write w_Jn_write) := gx_gv (gx_m 219 (by decide +kernel) (by decide +kernel)) im_Jn_write se_Jn_write in_Jn co_Jn_write
theorem im_Ro_find : Cond.instanceMethod y_Ro_find ∈ gx_tb := gx_m 244 (by decide +kernel) (by decide +kernel)
theorem se_Ro_find : Cond.selects R_Ro y_Ro_find y_Ro_find ∈ gx_tb := gx_m 245 (by decide +kernel) (by decide +kernel)
theorem gi_Bo_86 : GoodIn gx_tb (wsV R_Bo 86 R_Ro y_Ro_find w_Ro_find) := gx_gv (gx_m 243 (by decide +kernel) (by decide +kernel)) im_Ro_find se_Ro_find in_Ro co_Ro_find
theorem im_Jb_isLive : Cond.instanceMethod y_Jb_isLive ∈ gx_tb := gx_m 200 (by decide +kernel) (by decide +kernel)
theorem se_Jb_isLive : Cond.selects R_Jb y_Jb_isLive y_Jb_isLive ∈ gx_tb := gx_m 201 (by decide +kernel) (by decide +kernel)
theorem gi_Bo_90 : GoodIn gx_tb (wsV R_Bo 90 R_Jb y_Jb_isLive w_Jb_isLive) := gx_gv (gx_m 247 (by decide +kernel) (by decide +kernel)) im_Jb_isLive se_Jb_isLive in_Jb co_Jb_isLive
theorem im_Ro_releaseIfComplete : Cond.instanceMethod y_Ro_releaseIfComplete ∈ gx_tb := gx_m 253 (by decide +kernel) (by decide +kernel)
theorem se_Ro_releaseIfComplete : Cond.selects R_Ro y_Ro_releaseIfComplete y_Ro_releaseIfComplete ∈ gx_tb := gx_m 254 (by decide +kernel) (by decide +kernel)
theorem gi_Bo_106 : GoodIn gx_tb (wsV R_Bo 106 R_Ro y_Ro_releaseIfComplete w_Ro_releaseIfComplete) := gx_gv (gx_m 252 (by decide +kernel) (by decide +kernel)) im_Ro_releaseIfComplete se_Ro_releaseIfComplete in_Ro co_Ro_releaseIfComplete
theorem st_Bo_isWorker : Cond.static y_Bo_isWorker ∈ gx_tb := gx_m 262 (by decide +kernel) (by decide +kernel)
theorem gi_Bo_110 : GoodIn gx_tb (wsS R_Bo 110 y_Bo_isWorker w_Bo_isWorker) := gx_gs (gx_m 261 (by decide +kernel) (by decide +kernel)) st_Bo_isWorker in_Bo co_Bo_isWorker
theorem im_Ro_reservedBy : Cond.instanceMethod y_Ro_reservedBy ∈ gx_tb := gx_m 265 (by decide +kernel) (by decide +kernel)
theorem se_Ro_reservedBy : Cond.selects R_Ro y_Ro_reservedBy y_Ro_reservedBy ∈ gx_tb := gx_m 266 (by decide +kernel) (by decide +kernel)
theorem gi_Bo_113 : GoodIn gx_tb (wsV R_Bo 113 R_Ro y_Ro_reservedBy w_Ro_reservedBy) := gx_gv (gx_m 264 (by decide +kernel) (by decide +kernel)) im_Ro_reservedBy se_Ro_reservedBy in_Ro co_Ro_reservedBy
theorem im_Bo_firstOpenQueue : Cond.instanceMethod y_Bo_firstOpenQueue ∈ gx_tb := gx_m 270 (by decide +kernel) (by decide +kernel)
theorem se_Bo_firstOpenQueue : Cond.selects R_Bo y_Bo_firstOpenQueue y_Bo_firstOpenQueue ∈ gx_tb := gx_mp 0 (by decide +kernel) (by decide +kernel)
theorem gi_Bo_116 : GoodIn gx_tb (wsV R_Bo 116 R_Bo y_Bo_firstOpenQueue w_Bo_firstOpenQueue) := gx_gv (gx_m 268 (by decide +kernel) (by decide +kernel)) im_Bo_firstOpenQueue se_Bo_firstOpenQueue in_Bo co_Bo_firstOpenQueue
theorem im_Bo_openQueueByCredit : Cond.instanceMethod y_Bo_openQueueByCredit ∈ gx_tb := gx_m 290 (by decide +kernel) (by decide +kernel)
theorem se_Bo_openQueueByCredit : Cond.selects R_Bo y_Bo_openQueueByCredit y_Bo_openQueueByCredit ∈ gx_tb := gx_mp 2 (by decide +kernel) (by decide +kernel)
theorem gi_Bo_120 : GoodIn gx_tb (wsV R_Bo 120 R_Bo y_Bo_openQueueByCredit w_Bo_openQueueByCredit) := gx_gv (gx_m 288 (by decide +kernel) (by decide +kernel)) im_Bo_openQueueByCredit se_Bo_openQueueByCredit in_Bo co_Bo_openQueueByCredit
theorem im_Ro_nextInLine : Cond.instanceMethod y_Ro_nextInLine ∈ gx_tb := gx_m 281 (by decide +kernel) (by decide +kernel)
theorem se_Ro_nextInLine : Cond.selects R_Ro y_Ro_nextInLine y_Ro_nextInLine ∈ gx_tb := gx_m 282 (by decide +kernel) (by decide +kernel)
theorem gi_Bo_123 : GoodIn gx_tb (wsV R_Bo 123 R_Ro y_Ro_nextInLine w_Ro_nextInLine) := gx_gv (gx_m 280 (by decide +kernel) (by decide +kernel)) im_Ro_nextInLine se_Ro_nextInLine in_Ro co_Ro_nextInLine
theorem im_Qu_spendToken : Cond.instanceMethod y_Qu_spendToken ∈ gx_tb := gx_m 293 (by decide +kernel) (by decide +kernel)
theorem se_Qu_spendToken : Cond.selects R_Qu y_Qu_spendToken y_Qu_spendToken ∈ gx_tb := gx_m 294 (by decide +kernel) (by decide +kernel)
theorem gi_Bo_127 : GoodIn gx_tb (wsV R_Bo 127 R_Qu y_Qu_spendToken w_Qu_spendToken) := gx_gv (gx_m 292 (by decide +kernel) (by decide +kernel)) im_Qu_spendToken se_Qu_spendToken in_Qu co_Qu_spendToken
theorem im_Ro_failReserved : Cond.instanceMethod y_Ro_failReserved ∈ gx_tb := gx_m 305 (by decide +kernel) (by decide +kernel)
theorem se_Ro_failReserved : Cond.selects R_Ro y_Ro_failReserved y_Ro_failReserved ∈ gx_tb := gx_m 306 (by decide +kernel) (by decide +kernel)
theorem gi_Bo_133 : GoodIn gx_tb (wsV R_Bo 133 R_Ro y_Ro_failReserved w_Ro_failReserved) := gx_gv (gx_m 304 (by decide +kernel) (by decide +kernel)) im_Ro_failReserved se_Ro_failReserved in_Ro co_Ro_failReserved
theorem im_Qu_refillBetween : Cond.instanceMethod y_Qu_refillBetween ∈ gx_tb := gx_m 333 (by decide +kernel) (by decide +kernel)
theorem se_Qu_refillBetween : Cond.selects R_Qu y_Qu_refillBetween y_Qu_refillBetween ∈ gx_tb := gx_m 334 (by decide +kernel) (by decide +kernel)
theorem gi_Bo_136 : GoodIn gx_tb (wsV R_Bo 136 R_Qu y_Qu_refillBetween w_Qu_refillBetween) := gx_gv (gx_m 332 (by decide +kernel) (by decide +kernel)) im_Qu_refillBetween se_Qu_refillBetween in_Qu co_Qu_refillBetween
theorem im_Ro_settleDue : Cond.instanceMethod y_Ro_settleDue ∈ gx_tb := gx_m 338 (by decide +kernel) (by decide +kernel)
theorem se_Ro_settleDue : Cond.selects R_Ro y_Ro_settleDue y_Ro_settleDue ∈ gx_tb := gx_m 339 (by decide +kernel) (by decide +kernel)
theorem gi_Bo_139 : GoodIn gx_tb (wsV R_Bo 139 R_Ro y_Ro_settleDue w_Ro_settleDue) := gx_gv (gx_m 337 (by decide +kernel) (by decide +kernel)) im_Ro_settleDue se_Ro_settleDue in_Ro co_Ro_settleDue
theorem im_Ro_bury : Cond.instanceMethod y_Ro_bury ∈ gx_tb := gx_m 309 (by decide +kernel) (by decide +kernel)
theorem se_Ro_bury : Cond.selects R_Ro y_Ro_bury y_Ro_bury ∈ gx_tb := gx_m 310 (by decide +kernel) (by decide +kernel)
theorem gi_Bo_146 : GoodIn gx_tb (wsV R_Bo 146 R_Ro y_Ro_bury w_Ro_bury) := gx_gv (gx_m 358 (by decide +kernel) (by decide +kernel)) im_Ro_bury se_Ro_bury in_Ro co_Ro_bury
theorem im_Jn_flushAll : Cond.instanceMethod y_Jn_flushAll ∈ gx_tb := gx_m 224 (by decide +kernel) (by decide +kernel)
theorem se_Jn_flushAll : Cond.selects R_Jn y_Jn_flushAll y_Jn_flushAll ∈ gx_tb := gx_m 225 (by decide +kernel) (by decide +kernel)
theorem gi_Bo_149 : GoodIn gx_tb (wsV R_Bo 149 R_Jn y_Jn_flushAll w_Jn_flushAll) := gx_gv (gx_m 363 (by decide +kernel) (by decide +kernel)) im_Jn_flushAll se_Jn_flushAll in_Jn co_Jn_flushAll
theorem im_Jn_restore : Cond.instanceMethod y_Jn_restore ∈ gx_tb := gx_m 369 (by decide +kernel) (by decide +kernel)
theorem se_Jn_restore : Cond.selects R_Jn y_Jn_restore y_Jn_restore ∈ gx_tb := gx_m 370 (by decide +kernel) (by decide +kernel)
theorem gi_Bo_153 : GoodIn gx_tb (wsV R_Bo 153 R_Jn y_Jn_restore w_Jn_restore) := gx_gv (gx_m 368 (by decide +kernel) (by decide +kernel)) im_Jn_restore se_Jn_restore in_Jn co_Jn_restore
theorem im_Ro_releaseReserved : Cond.instanceMethod y_Ro_releaseReserved ∈ gx_tb := gx_m 377 (by decide +kernel) (by decide +kernel)
theorem se_Ro_releaseReserved : Cond.selects R_Ro y_Ro_releaseReserved y_Ro_releaseReserved ∈ gx_tb := gx_m 378 (by decide +kernel) (by decide +kernel)
theorem gi_Bo_157 : GoodIn gx_tb (wsV R_Bo 157 R_Ro y_Ro_releaseReserved w_Ro_releaseReserved) := gx_gv (gx_m 376 (by decide +kernel) (by decide +kernel)) im_Ro_releaseReserved se_Ro_releaseReserved in_Ro co_Ro_releaseReserved
theorem im_Qu_restart : Cond.instanceMethod y_Qu_restart ∈ gx_tb := gx_m 184 (by decide +kernel) (by decide +kernel)
theorem se_Qu_restart : Cond.selects R_Qu y_Qu_restart y_Qu_restart ∈ gx_tb := gx_m 185 (by decide +kernel) (by decide +kernel)
theorem gi_Bo_160 : GoodIn gx_tb (wsV R_Bo 160 R_Qu y_Qu_restart w_Qu_restart) := gx_gv (gx_m 380 (by decide +kernel) (by decide +kernel)) im_Qu_restart se_Qu_restart in_Qu co_Qu_restart
theorem im_Jb_isTimed : Cond.instanceMethod y_Jb_isTimed ∈ gx_tb := gx_m 346 (by decide +kernel) (by decide +kernel)
theorem se_Jb_isTimed : Cond.selects R_Jb y_Jb_isTimed y_Jb_isTimed ∈ gx_tb := gx_m 347 (by decide +kernel) (by decide +kernel)
theorem gi_Bo_163 : GoodIn gx_tb (wsV R_Bo 163 R_Jb y_Jb_isTimed w_Jb_isTimed) := gx_gv (gx_m 393 (by decide +kernel) (by decide +kernel)) im_Jb_isTimed se_Jb_isTimed in_Jb co_Jb_isTimed
theorem st_Bo_numberOrNone : Cond.static y_Bo_numberOrNone ∈ gx_tb := gx_m 399 (by decide +kernel) (by decide +kernel)
theorem gi_Bo_169 : GoodIn gx_tb (wsS R_Bo 169 y_Bo_numberOrNone w_Bo_numberOrNone) := gx_gs (gx_m 398 (by decide +kernel) (by decide +kernel)) st_Bo_numberOrNone in_Bo co_Bo_numberOrNone
theorem im_Ro_inLine : Cond.instanceMethod y_Ro_inLine ∈ gx_tb := gx_m 406 (by decide +kernel) (by decide +kernel)
theorem se_Ro_inLine : Cond.selects R_Ro y_Ro_inLine y_Ro_inLine ∈ gx_tb := gx_m 407 (by decide +kernel) (by decide +kernel)
theorem gi_Bo_173 : GoodIn gx_tb (wsV R_Bo 173 R_Ro y_Ro_inLine w_Ro_inLine) := gx_gv (gx_m 405 (by decide +kernel) (by decide +kernel)) im_Ro_inLine se_Ro_inLine in_Ro co_Ro_inLine
theorem im_Ro_countIn : Cond.instanceMethod y_Ro_countIn ∈ gx_tb := gx_m 317 (by decide +kernel) (by decide +kernel)
theorem se_Ro_countIn : Cond.selects R_Ro y_Ro_countIn y_Ro_countIn ∈ gx_tb := gx_m 318 (by decide +kernel) (by decide +kernel)
theorem gi_Bo_176 : GoodIn gx_tb (wsV R_Bo 176 R_Ro y_Ro_countIn w_Ro_countIn) := gx_gv (gx_m 414 (by decide +kernel) (by decide +kernel)) im_Ro_countIn se_Ro_countIn in_Ro co_Ro_countIn
theorem im_Qu_canGive : Cond.instanceMethod y_Qu_canGive ∈ gx_tb := gx_m 277 (by decide +kernel) (by decide +kernel)
theorem se_Qu_canGive : Cond.selects R_Qu y_Qu_canGive y_Qu_canGive ∈ gx_tb := gx_m 278 (by decide +kernel) (by decide +kernel)
theorem gi_Bo_188 : GoodIn gx_tb (wsV R_Bo 188 R_Qu y_Qu_canGive w_Qu_canGive) := gx_gv (gx_m 276 (by decide +kernel) (by decide +kernel)) im_Qu_canGive se_Qu_canGive in_Qu co_Qu_canGive
theorem im_Bo_isOpen : Cond.instanceMethod y_Bo_isOpen ∈ gx_tb := gx_m 274 (by decide +kernel) (by decide +kernel)
theorem se_Bo_isOpen : Cond.selects R_Bo y_Bo_isOpen y_Bo_isOpen ∈ gx_tb := gx_mp 1 (by decide +kernel) (by decide +kernel)
theorem gi_Bo_191 : GoodIn gx_tb (wsV R_Bo 191 R_Bo y_Bo_isOpen w_Bo_isOpen) := gx_gv (gx_m 272 (by decide +kernel) (by decide +kernel)) im_Bo_isOpen se_Bo_isOpen in_Bo co_Bo_isOpen
theorem gi_Jn_22 : GoodIn gx_tb (wsV R_Jn 22 R_Jn y_Jn_flushAll w_Jn_flushAll) := gx_gv (gx_m 223 (by decide +kernel) (by decide +kernel)) im_Jn_flushAll se_Jn_flushAll in_Jn co_Jn_flushAll
theorem im_Ro_copyFrom : Cond.instanceMethod y_Ro_copyFrom ∈ gx_tb := gx_m 228 (by decide +kernel) (by decide +kernel)
theorem se_Ro_copyFrom : Cond.selects R_Ro y_Ro_copyFrom y_Ro_copyFrom ∈ gx_tb := gx_m 229 (by decide +kernel) (by decide +kernel)
theorem gi_Jn_26 : GoodIn gx_tb (wsV R_Jn 26 R_Ro y_Ro_copyFrom w_Ro_copyFrom) := gx_gv (gx_m 227 (by decide +kernel) (by decide +kernel)) im_Ro_copyFrom se_Ro_copyFrom in_Ro co_Ro_copyFrom
theorem gi_Qu_22 : GoodIn gx_tb (wsV R_Qu 22 R_Qu y_Qu_restart w_Qu_restart) := gx_gv (gx_m 183 (by decide +kernel) (by decide +kernel)) im_Qu_restart se_Qu_restart in_Qu co_Qu_restart
theorem im_Jb_copyFrom : Cond.instanceMethod y_Jb_copyFrom ∈ gx_tb := gx_m 232 (by decide +kernel) (by decide +kernel)
theorem se_Jb_copyFrom : Cond.selects R_Jb y_Jb_copyFrom y_Jb_copyFrom ∈ gx_tb := gx_m 233 (by decide +kernel) (by decide +kernel)
theorem gi_Ro_27 : GoodIn gx_tb (wsV R_Ro 27 R_Jb y_Jb_copyFrom w_Jb_copyFrom) := gx_gv (gx_m 231 (by decide +kernel) (by decide +kernel)) im_Jb_copyFrom se_Jb_copyFrom in_Jb co_Jb_copyFrom
theorem im_Jb_begin : Cond.instanceMethod y_Jb_begin ∈ gx_tb := gx_m 208 (by decide +kernel) (by decide +kernel)
theorem se_Jb_begin : Cond.selects R_Jb y_Jb_begin y_Jb_begin ∈ gx_tb := gx_m 209 (by decide +kernel) (by decide +kernel)
theorem gi_Ro_31 : GoodIn gx_tb (wsV R_Ro 31 R_Jb y_Jb_begin w_Jb_begin) := gx_gv (gx_m 207 (by decide +kernel) (by decide +kernel)) im_Jb_begin se_Jb_begin in_Jb co_Jb_begin
theorem gi_Ro_48 : GoodIn gx_tb (wsV R_Ro 48 R_Ro y_Ro_enter w_Ro_enter) := gx_gv (gx_m 256 (by decide +kernel) (by decide +kernel)) im_Ro_enter se_Ro_enter in_Ro co_Ro_enter
theorem gi_Ro_58 : GoodIn gx_tb (wsV R_Ro 58 R_Ro y_Ro_bury w_Ro_bury) := gx_gv (gx_m 308 (by decide +kernel) (by decide +kernel)) im_Ro_bury se_Ro_bury in_Ro co_Ro_bury
theorem im_Jb_retryDelay : Cond.instanceMethod y_Jb_retryDelay ∈ gx_tb := gx_m 321 (by decide +kernel) (by decide +kernel)
theorem se_Jb_retryDelay : Cond.selects R_Jb y_Jb_retryDelay y_Jb_retryDelay ∈ gx_tb := gx_m 322 (by decide +kernel) (by decide +kernel)
theorem gi_Ro_61 : GoodIn gx_tb (wsV R_Ro 61 R_Jb y_Jb_retryDelay w_Jb_retryDelay) := gx_gv (gx_m 320 (by decide +kernel) (by decide +kernel)) im_Jb_retryDelay se_Jb_retryDelay in_Jb co_Jb_retryDelay
theorem gi_Ro_65 : GoodIn gx_tb (wsV R_Ro 65 R_Jb y_Jb_waitUntil w_Jb_waitUntil) := gx_gv (gx_m 327 (by decide +kernel) (by decide +kernel)) im_Jb_waitUntil se_Jb_waitUntil in_Jb co_Jb_waitUntil
theorem im_Ro_oldestDead : Cond.instanceMethod y_Ro_oldestDead ∈ gx_tb := gx_m 314 (by decide +kernel) (by decide +kernel)
theorem se_Ro_oldestDead : Cond.selects R_Ro y_Ro_oldestDead y_Ro_oldestDead ∈ gx_tb := gx_mp 3 (by decide +kernel) (by decide +kernel)
theorem gi_Ro_68 : GoodIn gx_tb (wsV R_Ro 68 R_Ro y_Ro_oldestDead w_Ro_oldestDead) := gx_gv (gx_m 312 (by decide +kernel) (by decide +kernel)) im_Ro_oldestDead se_Ro_oldestDead in_Ro co_Ro_oldestDead
theorem gi_Ro_72 : GoodIn gx_tb (wsV R_Ro 72 R_Ro y_Ro_countIn w_Ro_countIn) := gx_gv (gx_m 316 (by decide +kernel) (by decide +kernel)) im_Ro_countIn se_Ro_countIn in_Ro co_Ro_countIn
theorem im_Ro_nextDue : Cond.instanceMethod y_Ro_nextDue ∈ gx_tb := gx_m 343 (by decide +kernel) (by decide +kernel)
theorem se_Ro_nextDue : Cond.selects R_Ro y_Ro_nextDue y_Ro_nextDue ∈ gx_tb := gx_mp 4 (by decide +kernel) (by decide +kernel)
theorem gi_Ro_76 : GoodIn gx_tb (wsV R_Ro 76 R_Ro y_Ro_nextDue w_Ro_nextDue) := gx_gv (gx_m 341 (by decide +kernel) (by decide +kernel)) im_Ro_nextDue se_Ro_nextDue in_Ro co_Ro_nextDue
theorem gi_Ro_80 : GoodIn gx_tb (wsV R_Ro 80 R_Ro y_Ro_failReserved w_Ro_failReserved) := gx_gv (gx_m 349 (by decide +kernel) (by decide +kernel)) im_Ro_failReserved se_Ro_failReserved in_Ro co_Ro_failReserved
theorem gi_Ro_83 : GoodIn gx_tb (wsV R_Ro 83 R_Jb y_Jb_isTimed w_Jb_isTimed) := gx_gv (gx_m 345 (by decide +kernel) (by decide +kernel)) im_Jb_isTimed se_Jb_isTimed in_Jb co_Jb_isTimed
theorem gi_Ro_93 : GoodIn gx_tb (wsV R_Ro 93 R_Jb y_Jb_isLive w_Jb_isLive) := gx_gv (gx_m 199 (by decide +kernel) (by decide +kernel)) im_Jb_isLive se_Jb_isLive in_Jb co_Jb_isLive
theorem gi_Ro_99 : GoodIn gx_tb (wsV R_Ro 99 R_Ro y_Ro_nextInLine w_Ro_nextInLine) := gx_gv (gx_m 409 (by decide +kernel) (by decide +kernel)) im_Ro_nextInLine se_Ro_nextInLine in_Ro co_Ro_nextInLine
theorem im_Jb_standsBefore : Cond.instanceMethod y_Jb_standsBefore ∈ gx_tb := gx_m 285 (by decide +kernel) (by decide +kernel)
theorem se_Jb_standsBefore : Cond.selects R_Jb y_Jb_standsBefore y_Jb_standsBefore ∈ gx_tb := gx_m 286 (by decide +kernel) (by decide +kernel)
theorem gi_Ro_106 : GoodIn gx_tb (wsV R_Ro 106 R_Jb y_Jb_standsBefore w_Jb_standsBefore) := gx_gv (gx_m 284 (by decide +kernel) (by decide +kernel)) im_Jb_standsBefore se_Jb_standsBefore in_Jb co_Jb_standsBefore
theorem im_Mo_store : Cond.instanceMethod y_Mo_store ∈ gx_tb := gx_m 481 (by decide +kernel) (by decide +kernel)
theorem se_Mo_store : Cond.selects R_Mo y_Mo_store y_Mo_store ∈ gx_tb := gx_mp 5 (by decide +kernel) (by decide +kernel)
theorem gi_Mo_61 : GoodIn gx_tb (wsV R_Mo 61 R_Mo y_Mo_store w_Mo_store) := gx_gv (gx_m 479 (by decide +kernel) (by decide +kernel)) im_Mo_store se_Mo_store in_Mo co_Mo_store
theorem im_Mo_of : Cond.instanceMethod y_Mo_of ∈ gx_tb := gx_m 509 (by decide +kernel) (by decide +kernel)
theorem se_Mo_of : Cond.selects R_Mo y_Mo_of y_Mo_of ∈ gx_tb := gx_mp 9 (by decide +kernel) (by decide +kernel)
theorem gi_Mo_65 : GoodIn gx_tb (wsV R_Mo 65 R_Mo y_Mo_of w_Mo_of) := gx_gv (gx_m 507 (by decide +kernel) (by decide +kernel)) im_Mo_of se_Mo_of in_Mo co_Mo_of
theorem im_Mo_set : Cond.instanceMethod y_Mo_set ∈ gx_tb := gx_m 517 (by decide +kernel) (by decide +kernel)
theorem se_Mo_set : Cond.selects R_Mo y_Mo_set y_Mo_set ∈ gx_tb := gx_mp 11 (by decide +kernel) (by decide +kernel)
theorem gi_Mo_69 : GoodIn gx_tb (wsV R_Mo 69 R_Mo y_Mo_set w_Mo_set) := gx_gv (gx_m 515 (by decide +kernel) (by decide +kernel)) im_Mo_set se_Mo_set in_Mo co_Mo_set
theorem im_Mo_die : Cond.instanceMethod y_Mo_die ∈ gx_tb := gx_m 581 (by decide +kernel) (by decide +kernel)
theorem se_Mo_die : Cond.selects R_Mo y_Mo_die y_Mo_die ∈ gx_tb := gx_mp 20 (by decide +kernel) (by decide +kernel)
theorem gi_Mo_73 : GoodIn gx_tb (wsV R_Mo 73 R_Mo y_Mo_die w_Mo_die) := gx_gv (gx_m 579 (by decide +kernel) (by decide +kernel)) im_Mo_die se_Mo_die in_Mo co_Mo_die
theorem im_Mo_isLive : Cond.instanceMethod y_Mo_isLive ∈ gx_tb := gx_m 505 (by decide +kernel) (by decide +kernel)
theorem se_Mo_isLive : Cond.selects R_Mo y_Mo_isLive y_Mo_isLive ∈ gx_tb := gx_mp 8 (by decide +kernel) (by decide +kernel)
theorem gi_Mo_76 : GoodIn gx_tb (wsV R_Mo 76 R_Mo y_Mo_isLive w_Mo_isLive) := gx_gv (gx_m 503 (by decide +kernel) (by decide +kernel)) im_Mo_isLive se_Mo_isLive in_Mo co_Mo_isLive
theorem im_Mo_out : Cond.instanceMethod y_Mo_out ∈ gx_tb := gx_m 489 (by decide +kernel) (by decide +kernel)
theorem se_Mo_out : Cond.selects R_Mo y_Mo_out y_Mo_out ∈ gx_tb := gx_mp 6 (by decide +kernel) (by decide +kernel)
theorem gi_Mo_80 : GoodIn gx_tb (wsV R_Mo 80 R_Mo y_Mo_out w_Mo_out) := gx_gv (gx_m 487 (by decide +kernel) (by decide +kernel)) im_Mo_out se_Mo_out in_Mo co_Mo_out
theorem im_Mo_keyTaken : Cond.instanceMethod y_Mo_keyTaken ∈ gx_tb := gx_m 501 (by decide +kernel) (by decide +kernel)
theorem se_Mo_keyTaken : Cond.selects R_Mo y_Mo_keyTaken y_Mo_keyTaken ∈ gx_tb := gx_mp 7 (by decide +kernel) (by decide +kernel)
theorem gi_Mo_84 : GoodIn gx_tb (wsV R_Mo 84 R_Mo y_Mo_keyTaken w_Mo_keyTaken) := gx_gv (gx_m 499 (by decide +kernel) (by decide +kernel)) im_Mo_keyTaken se_Mo_keyTaken in_Mo co_Mo_keyTaken
theorem im_Mo_make : Cond.instanceMethod y_Mo_make ∈ gx_tb := gx_m 513 (by decide +kernel) (by decide +kernel)
theorem se_Mo_make : Cond.selects R_Mo y_Mo_make y_Mo_make ∈ gx_tb := gx_mp 10 (by decide +kernel) (by decide +kernel)
theorem gi_Mo_87 : GoodIn gx_tb (wsV R_Mo 87 R_Mo y_Mo_make w_Mo_make) := gx_gv (gx_m 511 (by decide +kernel) (by decide +kernel)) im_Mo_make se_Mo_make in_Mo co_Mo_make
theorem im_Mo_ready : Cond.instanceMethod y_Mo_ready ∈ gx_tb := gx_m 521 (by decide +kernel) (by decide +kernel)
theorem se_Mo_ready : Cond.selects R_Mo y_Mo_ready y_Mo_ready ∈ gx_tb := gx_mp 12 (by decide +kernel) (by decide +kernel)
theorem gi_Mo_91 : GoodIn gx_tb (wsV R_Mo 91 R_Mo y_Mo_ready w_Mo_ready) := gx_gv (gx_m 519 (by decide +kernel) (by decide +kernel)) im_Mo_ready se_Mo_ready in_Mo co_Mo_ready
theorem im_Mo_note : Cond.instanceMethod y_Mo_note ∈ gx_tb := gx_m 525 (by decide +kernel) (by decide +kernel)
theorem se_Mo_note : Cond.selects R_Mo y_Mo_note y_Mo_note ∈ gx_tb := gx_mp 13 (by decide +kernel) (by decide +kernel)
theorem gi_Mo_94 : GoodIn gx_tb (wsV R_Mo 94 R_Mo y_Mo_note w_Mo_note) := gx_gv (gx_m 523 (by decide +kernel) (by decide +kernel)) im_Mo_note se_Mo_note in_Mo co_Mo_note
theorem im_Mo_no : Cond.instanceMethod y_Mo_no ∈ gx_tb := gx_m 537 (by decide +kernel) (by decide +kernel)
theorem se_Mo_no : Cond.selects R_Mo y_Mo_no y_Mo_no ∈ gx_tb := gx_mp 14 (by decide +kernel) (by decide +kernel)
theorem gi_Mo_97 : GoodIn gx_tb (wsV R_Mo 97 R_Mo y_Mo_no w_Mo_no) := gx_gv (gx_m 535 (by decide +kernel) (by decide +kernel)) im_Mo_no se_Mo_no in_Mo co_Mo_no
theorem im_Mo_goesBefore : Cond.instanceMethod y_Mo_goesBefore ∈ gx_tb := gx_m 565 (by decide +kernel) (by decide +kernel)
theorem se_Mo_goesBefore : Cond.selects R_Mo y_Mo_goesBefore y_Mo_goesBefore ∈ gx_tb := gx_mp 18 (by decide +kernel) (by decide +kernel)
theorem gi_Mo_100 : GoodIn gx_tb (wsV R_Mo 100 R_Mo y_Mo_goesBefore w_Mo_goesBefore) := gx_gv (gx_m 563 (by decide +kernel) (by decide +kernel)) im_Mo_goesBefore se_Mo_goesBefore in_Mo co_Mo_goesBefore
theorem im_Mo_inLine : Cond.instanceMethod y_Mo_inLine ∈ gx_tb := gx_m 561 (by decide +kernel) (by decide +kernel)
theorem se_Mo_inLine : Cond.selects R_Mo y_Mo_inLine y_Mo_inLine ∈ gx_tb := gx_mp 17 (by decide +kernel) (by decide +kernel)
theorem gi_Mo_104 : GoodIn gx_tb (wsV R_Mo 104 R_Mo y_Mo_inLine w_Mo_inLine) := gx_gv (gx_m 559 (by decide +kernel) (by decide +kernel)) im_Mo_inLine se_Mo_inLine in_Mo co_Mo_inLine
theorem im_Mo_isOpen : Cond.instanceMethod y_Mo_isOpen ∈ gx_tb := gx_m 557 (by decide +kernel) (by decide +kernel)
theorem se_Mo_isOpen : Cond.selects R_Mo y_Mo_isOpen y_Mo_isOpen ∈ gx_tb := gx_mp 16 (by decide +kernel) (by decide +kernel)
theorem gi_Mo_107 : GoodIn gx_tb (wsV R_Mo 107 R_Mo y_Mo_isOpen w_Mo_isOpen) := gx_gv (gx_m 555 (by decide +kernel) (by decide +kernel)) im_Mo_isOpen se_Mo_isOpen in_Mo co_Mo_isOpen
theorem im_Mo_holding : Cond.instanceMethod y_Mo_holding ∈ gx_tb := gx_m 548 (by decide +kernel) (by decide +kernel)
theorem se_Mo_holding : Cond.selects R_Mo y_Mo_holding y_Mo_holding ∈ gx_tb := gx_m 549 (by decide +kernel) (by decide +kernel)
theorem gi_Mo_110 : GoodIn gx_tb (wsV R_Mo 110 R_Mo y_Mo_holding w_Mo_holding) := gx_gv (gx_m 547 (by decide +kernel) (by decide +kernel)) im_Mo_holding se_Mo_holding in_Mo co_Mo_holding
theorem im_Mo_choose : Cond.instanceMethod y_Mo_choose ∈ gx_tb := gx_m 553 (by decide +kernel) (by decide +kernel)
theorem se_Mo_choose : Cond.selects R_Mo y_Mo_choose y_Mo_choose ∈ gx_tb := gx_mp 15 (by decide +kernel) (by decide +kernel)
theorem gi_Mo_114 : GoodIn gx_tb (wsV R_Mo 114 R_Mo y_Mo_choose w_Mo_choose) := gx_gv (gx_m 551 (by decide +kernel) (by decide +kernel)) im_Mo_choose se_Mo_choose in_Mo co_Mo_choose
theorem im_Mo_failing : Cond.instanceMethod y_Mo_failing ∈ gx_tb := gx_m 577 (by decide +kernel) (by decide +kernel)
theorem se_Mo_failing : Cond.selects R_Mo y_Mo_failing y_Mo_failing ∈ gx_tb := gx_mp 19 (by decide +kernel) (by decide +kernel)
theorem gi_Mo_118 : GoodIn gx_tb (wsV R_Mo 118 R_Mo y_Mo_failing w_Mo_failing) := gx_gv (gx_m 575 (by decide +kernel) (by decide +kernel)) im_Mo_failing se_Mo_failing in_Mo co_Mo_failing
theorem im_Mo_wake : Cond.instanceMethod y_Mo_wake ∈ gx_tb := gx_m 589 (by decide +kernel) (by decide +kernel)
theorem se_Mo_wake : Cond.selects R_Mo y_Mo_wake y_Mo_wake ∈ gx_tb := gx_mp 21 (by decide +kernel) (by decide +kernel)
theorem gi_Mo_121 : GoodIn gx_tb (wsV R_Mo 121 R_Mo y_Mo_wake w_Mo_wake) := gx_gv (gx_m 587 (by decide +kernel) (by decide +kernel)) im_Mo_wake se_Mo_wake in_Mo co_Mo_wake
