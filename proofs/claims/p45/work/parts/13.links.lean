/-! links: which field, which method a pool number names -/
theorem tc1 {w : Cond} (i : Nat) (h : tables_1_1[i]? = some w) : w ∈ tables_1 := List.mem_append_left _ (List.mem_of_getElem? h)
theorem gc1 {w : Cond} (i : Nat) (h : tables_1_1[i]? = some w) (hg : goodWord w = true) : w ∈ gd_ := gd_w (List.mem_append_right _ (tc1 i h)) hg
theorem tc2 {w : Cond} (i : Nat) (h : tables_1_2[i]? = some w) : w ∈ tables_1 := List.mem_append_right _ (List.mem_append_left _ (List.mem_of_getElem? h))
theorem gc2 {w : Cond} (i : Nat) (h : tables_1_2[i]? = some w) (hg : goodWord w = true) : w ∈ gd_ := gd_w (List.mem_append_right _ (tc2 i h)) hg
theorem tc3 {w : Cond} (i : Nat) (h : tables_1_3[i]? = some w) : w ∈ tables_1 := List.mem_append_right _ (List.mem_append_right _ (List.mem_append_left _ (List.mem_of_getElem? h)))
theorem gc3 {w : Cond} (i : Nat) (h : tables_1_3[i]? = some w) (hg : goodWord w = true) : w ∈ gd_ := gd_w (List.mem_append_right _ (tc3 i h)) hg
theorem tc4 {w : Cond} (i : Nat) (h : tables_1_4[i]? = some w) : w ∈ tables_1 := List.mem_append_right _ (List.mem_append_right _ (List.mem_append_right _ (List.mem_append_left _ (List.mem_of_getElem? h))))
theorem gc4 {w : Cond} (i : Nat) (h : tables_1_4[i]? = some w) (hg : goodWord w = true) : w ∈ gd_ := gd_w (List.mem_append_right _ (tc4 i h)) hg
theorem tc5 {w : Cond} (i : Nat) (h : tables_1_5[i]? = some w) : w ∈ tables_1 := List.mem_append_right _ (List.mem_append_right _ (List.mem_append_right _ (List.mem_append_right _ (List.mem_append_left _ (List.mem_of_getElem? h)))))
theorem gc5 {w : Cond} (i : Nat) (h : tables_1_5[i]? = some w) (hg : goodWord w = true) : w ∈ gd_ := gd_w (List.mem_append_right _ (tc5 i h)) hg
theorem tc6 {w : Cond} (i : Nat) (h : tables_1_6[i]? = some w) : w ∈ tables_1 := List.mem_append_right _ (List.mem_append_right _ (List.mem_append_right _ (List.mem_append_right _ (List.mem_append_right _ (List.mem_append_left _ (List.mem_of_getElem? h))))))
theorem gc6 {w : Cond} (i : Nat) (h : tables_1_6[i]? = some w) (hg : goodWord w = true) : w ∈ gd_ := gd_w (List.mem_append_right _ (tc6 i h)) hg
theorem tc7 {w : Cond} (i : Nat) (h : tables_1_7[i]? = some w) : w ∈ tables_1 := List.mem_append_right _ (List.mem_append_right _ (List.mem_append_right _ (List.mem_append_right _ (List.mem_append_right _ (List.mem_append_right _ ((List.mem_of_getElem? h)))))))
theorem gc7 {w : Cond} (i : Nat) (h : tables_1_7[i]? = some w) (hg : goodWord w = true) : w ∈ gd_ := gd_w (List.mem_append_right _ (tc7 i h)) hg
theorem gd_list {ws : List Cond} (ps : List Nat) (h : ws = ps.filterMap (fun i => tables_1[i]?)) (hg : ws.all goodWord = true) : ∀ w ∈ ws, w ∈ gd_ := by
  intro w hw
  have h1 := List.all_eq_true.mp hg w hw
  rw [h] at hw
  obtain ⟨i, -, hi⟩ := List.mem_filterMap.mp hw
  exact gd_t i hi h1
theorem gd_ats {L : List Cond} (h : L.all (fun w => (nw_ w && decide (w ∈ tables_1)) || (goodWord w && decide (w ∈ tables_1 ∨ w ∈ k2_sels lw_privs))) = true) : ∀ w ∈ L, (nw_ w = true ∧ w ∈ tables_1) ∨ w ∈ gd_ := by
  intro w hw
  have h1 := List.all_eq_true.mp h w hw
  simp only [Bool.or_eq_true, Bool.and_eq_true, decide_eq_true_eq] at h1
  rcases h1 with h1 | ⟨h2, h1⟩
  · exact Or.inl h1
  · exact Or.inr (gd_w (h1.elim (fun q => List.mem_append_right _ q) (fun q => List.mem_append_left _ q)) h2)
theorem gd_sub {L : List Cond} (h : ∀ w ∈ L, w ∈ lw_tbl) (hg : L.all goodWord = true) : ∀ w ∈ L, w ∈ gd_ := fun w hw => gd_w (h w hw) (List.all_eq_true.mp hg w hw)
theorem tb_t {w : Cond} (i : Nat) (h : tables_1[i]? = some w) : w ∈ tables_1 := List.mem_of_getElem? h
theorem guJ0 : ∀ w ∈ u_ws RJ0 TJ0 4, w ∈ gd_ := gd_list [367, 369, 866, 868] (by decide +kernel) (by decide +kernel)
theorem guJ4 : ∀ w ∈ u_ws RJ4 TJ4 4, w ∈ gd_ := gd_list [621, 623, 625, 627] (by decide +kernel) (by decide +kernel)
theorem guJx00060 : ∀ w ∈ u_ws RJx00060 TJx00060 6, w ∈ gd_ := gd_list [333, 335, 337, 339, 341, 343] (by decide +kernel) (by decide +kernel)
theorem guX1 : ∀ w ∈ u_ws RX1 TX1 17, w ∈ gd_ := gd_list [89, 91, 93, 95, 97, 99, 101, 103, 105, 107, 109, 111, 113, 115, 117, 119, 121] (by decide +kernel) (by decide +kernel)
theorem guX2 : ∀ w ∈ u_ws RX2 TX2 5, w ∈ gd_ := gd_list [170, 172, 174, 176, 178] (by decide +kernel) (by decide +kernel)
theorem guX4 : ∀ w ∈ u_ws RX4 TX4 3, w ∈ gd_ := gd_list [138, 140, 142] (by decide +kernel) (by decide +kernel)
theorem guX6 : ∀ w ∈ u_ws RX6 TX6 2, w ∈ gd_ := gd_list [240, 242] (by decide +kernel) (by decide +kernel)
theorem guX7 : ∀ w ∈ u_ws RX7 TX7 2, w ∈ gd_ := gd_list [206, 208] (by decide +kernel) (by decide +kernel)
theorem guX8 : ∀ w ∈ u_ws RX8 TX8 3, w ∈ gd_ := gd_list [225, 227, 229] (by decide +kernel) (by decide +kernel)
theorem guX9 : ∀ w ∈ u_ws RX9 TX9 2, w ∈ gd_ := gd_list [197, 199] (by decide +kernel) (by decide +kernel)
theorem guX11 : ∀ w ∈ u_ws RX11 TX11 12, w ∈ gd_ := gd_list [256, 258, 260, 262, 264, 266, 268, 270, 272, 274, 276, 278] (by decide +kernel) (by decide +kernel)
theorem fX1_9 : fl_ RX1 9 3 0 true (.array .int) := ⟨RX1, TX1, 17, tyX1, rfl, by decide, guX1, (gc1 55 (by decide +kernel) rfl), tyX1_ok, nmX1, rfl, by decide +kernel⟩
theorem fX1_15 : fl_ RX1 15 3 1 true (.array .int) := ⟨RX1, TX1, 17, tyX1, rfl, by decide, guX1, (gc1 56 (by decide +kernel) rfl), tyX1_ok, nmX1, rfl, by decide +kernel⟩
theorem fX11_137 : fl_ RX11 137 3 1 true (.array .int) := ⟨RX1, TX1, 17, tyX1, rfl, by decide, guX1, (gc1 57 (by decide +kernel) rfl), tyX1_ok, nmX1, rfl, by decide +kernel⟩
theorem fX1_18 : fl_ RX1 18 3 2 true (.array .int) := ⟨RX1, TX1, 17, tyX1, rfl, by decide, guX1, (gc1 58 (by decide +kernel) rfl), tyX1_ok, nmX1, rfl, by decide +kernel⟩
theorem fX11_144 : fl_ RX11 144 3 2 true (.array .int) := ⟨RX1, TX1, 17, tyX1, rfl, by decide, guX1, (gc1 59 (by decide +kernel) rfl), tyX1_ok, nmX1, rfl, by decide +kernel⟩
theorem fX1_21 : fl_ RX1 21 3 3 true (.array .int) := ⟨RX1, TX1, 17, tyX1, rfl, by decide, guX1, (gc1 60 (by decide +kernel) rfl), tyX1_ok, nmX1, rfl, by decide +kernel⟩
theorem fX11_147 : fl_ RX11 147 3 3 true (.array .int) := ⟨RX1, TX1, 17, tyX1, rfl, by decide, guX1, (gc1 61 (by decide +kernel) rfl), tyX1_ok, nmX1, rfl, by decide +kernel⟩
theorem fX1_24 : fl_ RX1 24 3 4 true (.array .int) := ⟨RX1, TX1, 17, tyX1, rfl, by decide, guX1, (gc1 62 (by decide +kernel) rfl), tyX1_ok, nmX1, rfl, by decide +kernel⟩
theorem fX1_27 : fl_ RX1 27 3 5 true (.array .int) := ⟨RX1, TX1, 17, tyX1, rfl, by decide, guX1, (gc1 63 (by decide +kernel) rfl), tyX1_ok, nmX1, rfl, by decide +kernel⟩
theorem fX1_30 : fl_ RX1 30 3 6 true (.array .int) := ⟨RX1, TX1, 17, tyX1, rfl, by decide, guX1, (gc1 64 (by decide +kernel) rfl), tyX1_ok, nmX1, rfl, by decide +kernel⟩
theorem fX1_33 : fl_ RX1 33 3 7 true (.array .int) := ⟨RX1, TX1, 17, tyX1, rfl, by decide, guX1, (gc1 65 (by decide +kernel) rfl), tyX1_ok, nmX1, rfl, by decide +kernel⟩
theorem fX11_181 : fl_ RX11 181 3 7 true (.array .int) := ⟨RX1, TX1, 17, tyX1, rfl, by decide, guX1, (gc1 66 (by decide +kernel) rfl), tyX1_ok, nmX1, rfl, by decide +kernel⟩
theorem fX1_36 : fl_ RX1 36 3 8 true (.array .int) := ⟨RX1, TX1, 17, tyX1, rfl, by decide, guX1, (gc1 67 (by decide +kernel) rfl), tyX1_ok, nmX1, rfl, by decide +kernel⟩
theorem fX11_184 : fl_ RX11 184 3 8 true (.array .int) := ⟨RX1, TX1, 17, tyX1, rfl, by decide, guX1, (gc1 68 (by decide +kernel) rfl), tyX1_ok, nmX1, rfl, by decide +kernel⟩
theorem fX1_39 : fl_ RX1 39 3 9 true (.array .int) := ⟨RX1, TX1, 17, tyX1, rfl, by decide, guX1, (gc1 69 (by decide +kernel) rfl), tyX1_ok, nmX1, rfl, by decide +kernel⟩
theorem fX11_187 : fl_ RX11 187 3 9 true (.array .int) := ⟨RX1, TX1, 17, tyX1, rfl, by decide, guX1, (gc1 70 (by decide +kernel) rfl), tyX1_ok, nmX1, rfl, by decide +kernel⟩
theorem fX1_58 : fl_ RX1 58 3 10 false .int := ⟨RX1, TX1, 17, tyX1, rfl, by decide, guX1, (gc1 71 (by decide +kernel) rfl), tyX1_ok, nmX1, rfl, by decide +kernel⟩
theorem fX5_66 : fl_ RX5 66 3 10 false .int := ⟨RX1, TX1, 17, tyX1, rfl, by decide, guX1, (gc1 72 (by decide +kernel) rfl), tyX1_ok, nmX1, rfl, by decide +kernel⟩
theorem fX10_35 : fl_ RX10 35 3 10 false .int := ⟨RX1, TX1, 17, tyX1, rfl, by decide, guX1, (gc1 73 (by decide +kernel) rfl), tyX1_ok, nmX1, rfl, by decide +kernel⟩
theorem fX11_236 : fl_ RX11 236 3 10 false .int := ⟨RX1, TX1, 17, tyX1, rfl, by decide, guX1, (gc1 74 (by decide +kernel) rfl), tyX1_ok, nmX1, rfl, by decide +kernel⟩
theorem fX1_61 : fl_ RX1 61 3 11 false .int := ⟨RX1, TX1, 17, tyX1, rfl, by decide, guX1, (gc1 75 (by decide +kernel) rfl), tyX1_ok, nmX1, rfl, by decide +kernel⟩
theorem fX5_76 : fl_ RX5 76 3 11 false .int := ⟨RX1, TX1, 17, tyX1, rfl, by decide, guX1, (gc1 76 (by decide +kernel) rfl), tyX1_ok, nmX1, rfl, by decide +kernel⟩
theorem fX11_305 : fl_ RX11 305 3 11 false .int := ⟨RX1, TX1, 17, tyX1, rfl, by decide, guX1, (gc1 77 (by decide +kernel) rfl), tyX1_ok, nmX1, rfl, by decide +kernel⟩
theorem fX1_42 : fl_ RX1 42 3 12 false .int := ⟨RX1, TX1, 17, tyX1, rfl, by decide, guX1, (gc1 78 (by decide +kernel) rfl), tyX1_ok, nmX1, rfl, by decide +kernel⟩
theorem fX5_49 : fl_ RX5 49 3 12 false .int := ⟨RX1, TX1, 17, tyX1, rfl, by decide, guX1, (gc1 79 (by decide +kernel) rfl), tyX1_ok, nmX1, rfl, by decide +kernel⟩
theorem fX11_168 : fl_ RX11 168 3 12 false .int := ⟨RX1, TX1, 17, tyX1, rfl, by decide, guX1, (gc1 80 (by decide +kernel) rfl), tyX1_ok, nmX1, rfl, by decide +kernel⟩
theorem fX1_64 : fl_ RX1 64 3 13 false .int := ⟨RX1, TX1, 17, tyX1, rfl, by decide, guX1, (gc1 81 (by decide +kernel) rfl), tyX1_ok, nmX1, rfl, by decide +kernel⟩
theorem fX11_311 : fl_ RX11 311 3 13 false .int := ⟨RX1, TX1, 17, tyX1, rfl, by decide, guX1, (gc1 82 (by decide +kernel) rfl), tyX1_ok, nmX1, rfl, by decide +kernel⟩
theorem fX1_67 : fl_ RX1 67 3 14 false .int := ⟨RX1, TX1, 17, tyX1, rfl, by decide, guX1, (gc1 83 (by decide +kernel) rfl), tyX1_ok, nmX1, rfl, by decide +kernel⟩
theorem fX11_314 : fl_ RX11 314 3 14 false .int := ⟨RX1, TX1, 17, tyX1, rfl, by decide, guX1, (gc1 84 (by decide +kernel) rfl), tyX1_ok, nmX1, rfl, by decide +kernel⟩
theorem fX1_70 : fl_ RX1 70 3 15 false .int := ⟨RX1, TX1, 17, tyX1, rfl, by decide, guX1, (gc1 85 (by decide +kernel) rfl), tyX1_ok, nmX1, rfl, by decide +kernel⟩
theorem fX11_317 : fl_ RX11 317 3 15 false .int := ⟨RX1, TX1, 17, tyX1, rfl, by decide, guX1, (gc1 86 (by decide +kernel) rfl), tyX1_ok, nmX1, rfl, by decide +kernel⟩
theorem fX1_73 : fl_ RX1 73 3 16 false .int := ⟨RX1, TX1, 17, tyX1, rfl, by decide, guX1, (gc1 87 (by decide +kernel) rfl), tyX1_ok, nmX1, rfl, by decide +kernel⟩
theorem fX11_320 : fl_ RX11 320 3 16 false .int := ⟨RX1, TX1, 17, tyX1, rfl, by decide, guX1, (gc1 88 (by decide +kernel) rfl), tyX1_ok, nmX1, rfl, by decide +kernel⟩
theorem fX4_11 : fl_ RX4 11 5 0 true (.array (.object "MapScales$Chart")) := ⟨RX4, TX4, 3, tyX4, rfl, by decide, guX4, (gc1 134 (by decide +kernel) rfl), tyX4_ok, nmX4, rfl, by decide +kernel⟩
theorem fX4_22 : fl_ RX4 22 5 1 false .int := ⟨RX4, TX4, 3, tyX4, rfl, by decide, guX4, (gc1 135 (by decide +kernel) rfl), tyX4_ok, nmX4, rfl, by decide +kernel⟩
theorem fX4_18 : fl_ RX4 18 5 2 false .int := ⟨RX4, TX4, 3, tyX4, rfl, by decide, guX4, (gc1 136 (by decide +kernel) rfl), tyX4_ok, nmX4, rfl, by decide +kernel⟩
theorem fX11_323 : fl_ RX11 323 5 2 false .int := ⟨RX4, TX4, 3, tyX4, rfl, by decide, guX4, (gc1 137 (by decide +kernel) rfl), tyX4_ok, nmX4, rfl, by decide +kernel⟩
theorem fX5_9 : fl_ RX5 9 4 0 false .int := ⟨RX2, TX2, 5, tyX2, rfl, by decide, guX2, (gc1 151 (by decide +kernel) rfl), tyX2_ok, nmX2, rfl, by decide +kernel⟩
theorem fX2_15 : fl_ RX2 15 4 0 false .int := ⟨RX2, TX2, 5, tyX2, rfl, by decide, guX2, (gc1 152 (by decide +kernel) rfl), tyX2_ok, nmX2, rfl, by decide +kernel⟩
theorem fX1_97 : fl_ RX1 97 4 0 false .int := ⟨RX2, TX2, 5, tyX2, rfl, by decide, guX2, (gc1 153 (by decide +kernel) rfl), tyX2_ok, nmX2, rfl, by decide +kernel⟩
theorem fX2_19 : fl_ RX2 19 4 1 false .int := ⟨RX2, TX2, 5, tyX2, rfl, by decide, guX2, (gc1 154 (by decide +kernel) rfl), tyX2_ok, nmX2, rfl, by decide +kernel⟩
theorem fX5_15 : fl_ RX5 15 4 1 false .int := ⟨RX2, TX2, 5, tyX2, rfl, by decide, guX2, (gc1 155 (by decide +kernel) rfl), tyX2_ok, nmX2, rfl, by decide +kernel⟩
theorem fX7_69 : fl_ RX7 69 4 1 false .int := ⟨RX2, TX2, 5, tyX2, rfl, by decide, guX2, (gc1 156 (by decide +kernel) rfl), tyX2_ok, nmX2, rfl, by decide +kernel⟩
theorem fX1_102 : fl_ RX1 102 4 1 false .int := ⟨RX2, TX2, 5, tyX2, rfl, by decide, guX2, (gc1 157 (by decide +kernel) rfl), tyX2_ok, nmX2, rfl, by decide +kernel⟩
theorem fX11_433 : fl_ RX11 433 4 1 false .int := ⟨RX2, TX2, 5, tyX2, rfl, by decide, guX2, (gc1 158 (by decide +kernel) rfl), tyX2_ok, nmX2, rfl, by decide +kernel⟩
theorem fX2_22 : fl_ RX2 22 4 2 false .int := ⟨RX2, TX2, 5, tyX2, rfl, by decide, guX2, (gc1 159 (by decide +kernel) rfl), tyX2_ok, nmX2, rfl, by decide +kernel⟩
theorem fX5_22 : fl_ RX5 22 4 2 false .int := ⟨RX2, TX2, 5, tyX2, rfl, by decide, guX2, (gc1 160 (by decide +kernel) rfl), tyX2_ok, nmX2, rfl, by decide +kernel⟩
theorem fX7_63 : fl_ RX7 63 4 2 false .int := ⟨RX2, TX2, 5, tyX2, rfl, by decide, guX2, (gc1 161 (by decide +kernel) rfl), tyX2_ok, nmX2, rfl, by decide +kernel⟩
theorem fX1_105 : fl_ RX1 105 4 2 false .int := ⟨RX2, TX2, 5, tyX2, rfl, by decide, guX2, (gc1 162 (by decide +kernel) rfl), tyX2_ok, nmX2, rfl, by decide +kernel⟩
theorem fX11_436 : fl_ RX11 436 4 2 false .int := ⟨RX2, TX2, 5, tyX2, rfl, by decide, guX2, (gc1 163 (by decide +kernel) rfl), tyX2_ok, nmX2, rfl, by decide +kernel⟩
theorem fX2_25 : fl_ RX2 25 4 3 false .int := ⟨RX2, TX2, 5, tyX2, rfl, by decide, guX2, (gc1 164 (by decide +kernel) rfl), tyX2_ok, nmX2, rfl, by decide +kernel⟩
theorem fX7_75 : fl_ RX7 75 4 3 false .int := ⟨RX2, TX2, 5, tyX2, rfl, by decide, guX2, (gc1 165 (by decide +kernel) rfl), tyX2_ok, nmX2, rfl, by decide +kernel⟩
theorem fX1_143 : fl_ RX1 143 4 3 false .int := ⟨RX2, TX2, 5, tyX2, rfl, by decide, guX2, (gc1 166 (by decide +kernel) rfl), tyX2_ok, nmX2, rfl, by decide +kernel⟩
theorem fX2_9 : fl_ RX2 9 4 4 true (.array .int) := ⟨RX2, TX2, 5, tyX2, rfl, by decide, guX2, (gc1 167 (by decide +kernel) rfl), tyX2_ok, nmX2, rfl, by decide +kernel⟩
theorem fX7_81 : fl_ RX7 81 4 4 true (.array .int) := ⟨RX2, TX2, 5, tyX2, rfl, by decide, guX2, (gc1 168 (by decide +kernel) rfl), tyX2_ok, nmX2, rfl, by decide +kernel⟩
theorem fX1_146 : fl_ RX1 146 4 4 true (.array .int) := ⟨RX2, TX2, 5, tyX2, rfl, by decide, guX2, (gc1 169 (by decide +kernel) rfl), tyX2_ok, nmX2, rfl, by decide +kernel⟩
theorem fX9_9 : fl_ RX9 9 9 0 true (.array .char) := ⟨RX9, TX9, 2, tyX9, rfl, by decide, guX9, (gc1 193 (by decide +kernel) rfl), tyX9_ok, nmX9, rfl, by decide +kernel⟩
theorem fX9_15 : fl_ RX9 15 9 1 false .int := ⟨RX9, TX9, 2, tyX9, rfl, by decide, guX9, (gc1 194 (by decide +kernel) rfl), tyX9_ok, nmX9, rfl, by decide +kernel⟩
theorem fX7_29 : fl_ RX7 29 9 1 false .int := ⟨RX9, TX9, 2, tyX9, rfl, by decide, guX9, (gc1 195 (by decide +kernel) rfl), tyX9_ok, nmX9, rfl, by decide +kernel⟩
theorem fX11_280 : fl_ RX11 280 9 1 false .int := ⟨RX9, TX9, 2, tyX9, rfl, by decide, guX9, (gc1 196 (by decide +kernel) rfl), tyX9_ok, nmX9, rfl, by decide +kernel⟩
theorem fX7_12 : fl_ RX7 12 7 0 true (.object "MapScales$Strip") := ⟨RX7, TX7, 2, tyX7, rfl, by decide, guX7, (gc1 203 (by decide +kernel) rfl), tyX7_ok, nmX7, rfl, by decide +kernel⟩
theorem fX11_43 : fl_ RX11 43 7 0 true (.object "MapScales$Strip") := ⟨RX7, TX7, 2, tyX7, rfl, by decide, guX7, (gc1 204 (by decide +kernel) rfl), tyX7_ok, nmX7, rfl, by decide +kernel⟩
theorem fX7_18 : fl_ RX7 18 7 1 false .int := ⟨RX7, TX7, 2, tyX7, rfl, by decide, guX7, (gc1 205 (by decide +kernel) rfl), tyX7_ok, nmX7, rfl, by decide +kernel⟩
theorem fX8_9 : fl_ RX8 9 8 0 true (.array .int) := ⟨RX8, TX8, 3, tyX8, rfl, by decide, guX8, (gc1 219 (by decide +kernel) rfl), tyX8_ok, nmX8, rfl, by decide +kernel⟩
theorem fX11_365 : fl_ RX11 365 8 0 true (.array .int) := ⟨RX8, TX8, 3, tyX8, rfl, by decide, guX8, (gc1 220 (by decide +kernel) rfl), tyX8_ok, nmX8, rfl, by decide +kernel⟩
theorem fX8_15 : fl_ RX8 15 8 1 true (.array .int) := ⟨RX8, TX8, 3, tyX8, rfl, by decide, guX8, (gc1 221 (by decide +kernel) rfl), tyX8_ok, nmX8, rfl, by decide +kernel⟩
theorem fX11_362 : fl_ RX11 362 8 1 true (.array .int) := ⟨RX8, TX8, 3, tyX8, rfl, by decide, guX8, (gc1 222 (by decide +kernel) rfl), tyX8_ok, nmX8, rfl, by decide +kernel⟩
theorem fX8_18 : fl_ RX8 18 8 2 false .int := ⟨RX8, TX8, 3, tyX8, rfl, by decide, guX8, (gc1 223 (by decide +kernel) rfl), tyX8_ok, nmX8, rfl, by decide +kernel⟩
theorem fX11_359 : fl_ RX11 359 8 2 false .int := ⟨RX8, TX8, 3, tyX8, rfl, by decide, guX8, (gc1 224 (by decide +kernel) rfl), tyX8_ok, nmX8, rfl, by decide +kernel⟩
theorem fX6_9 : fl_ RX6 9 6 0 true (.array .int) := ⟨RX6, TX6, 2, tyX6, rfl, by decide, guX6, (gc1 238 (by decide +kernel) rfl), tyX6_ok, nmX6, rfl, by decide +kernel⟩
theorem fX6_15 : fl_ RX6 15 6 1 true (.array .int) := ⟨RX6, TX6, 2, tyX6, rfl, by decide, guX6, (gc1 239 (by decide +kernel) rfl), tyX6_ok, nmX6, rfl, by decide +kernel⟩
theorem fX11_10 : fl_ RX11 10 10 0 true (.object "MapScales$Chart") := ⟨RX11, TX11, 12, tyX11, rfl, by decide, guX11, (gc2 5 (by decide +kernel) rfl), tyX11_ok, nmX11, rfl, by decide +kernel⟩
theorem fX11_16 : fl_ RX11 16 10 1 true (.object "MapScales$Chart") := ⟨RX11, TX11, 12, tyX11, rfl, by decide, guX11, (gc2 6 (by decide +kernel) rfl), tyX11_ok, nmX11, rfl, by decide +kernel⟩
theorem fX11_19 : fl_ RX11 19 10 2 true (.object "MapScales$Chart") := ⟨RX11, TX11, 12, tyX11, rfl, by decide, guX11, (gc2 7 (by decide +kernel) rfl), tyX11_ok, nmX11, rfl, by decide +kernel⟩
theorem fX11_25 : fl_ RX11 25 10 4 true (.object "MapScales$History") := ⟨RX11, TX11, 12, tyX11, rfl, by decide, guX11, (gc2 8 (by decide +kernel) rfl), tyX11_ok, nmX11, rfl, by decide +kernel⟩
theorem fX11_32 : fl_ RX11 32 10 5 true (.object "MapScales$Command") := ⟨RX11, TX11, 12, tyX11, rfl, by decide, guX11, (gc2 9 (by decide +kernel) rfl), tyX11_ok, nmX11, rfl, by decide +kernel⟩
theorem fX11_39 : fl_ RX11 39 10 6 true (.object "MapScales$Reader") := ⟨RX11, TX11, 12, tyX11, rfl, by decide, guX11, (gc2 10 (by decide +kernel) rfl), tyX11_ok, nmX11, rfl, by decide +kernel⟩
theorem fX11_47 : fl_ RX11 47 10 7 true (.object "MapScales$Strip") := ⟨RX11, TX11, 12, tyX11, rfl, by decide, guX11, (gc2 11 (by decide +kernel) rfl), tyX11_ok, nmX11, rfl, by decide +kernel⟩
theorem fX11_53 : fl_ RX11 53 10 8 true (.object "MapScales$Strip") := ⟨RX11, TX11, 12, tyX11, rfl, by decide, guX11, (gc2 12 (by decide +kernel) rfl), tyX11_ok, nmX11, rfl, by decide +kernel⟩
theorem fX11_59 : fl_ RX11 59 10 9 true (.object "MapScales$Refusal") := ⟨RX11, TX11, 12, tyX11, rfl, by decide, guX11, (gc2 13 (by decide +kernel) rfl), tyX11_ok, nmX11, rfl, by decide +kernel⟩
theorem fX11_66 : fl_ RX11 66 10 10 true (.object "MapScales$Parts") := ⟨RX11, TX11, 12, tyX11, rfl, by decide, guX11, (gc2 14 (by decide +kernel) rfl), tyX11_ok, nmX11, rfl, by decide +kernel⟩
theorem fX11_70 : fl_ RX11 70 10 11 false .int := ⟨RX11, TX11, 12, tyX11, rfl, by decide, guX11, (gc2 15 (by decide +kernel) rfl), tyX11_ok, nmX11, rfl, by decide +kernel⟩
theorem fJ0_9 : fl_ RJ0 9 0 0 true (.array .byte) := ⟨RJ0, TJ0, 4, tyJ0, rfl, by decide, guJ0, (gc4 144 (by decide +kernel) rfl), tyJ0_ok, nmJ0, rfl, by decide +kernel⟩
theorem fJ0_15 : fl_ RJ0 15 0 1 true .byte := ⟨RJ0, TJ0, 4, tyJ0, rfl, by decide, guJ0, (gc4 145 (by decide +kernel) rfl), tyJ0_ok, nmJ0, rfl, by decide +kernel⟩
