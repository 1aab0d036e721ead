/-! the law's own methods: a call of the class, and a number for what it throws -/
theorem big_o {G : GX} {d b : Nat} {M : MT} {args : List Value} {w w2 : WS} {o o2 : OT} (h : o = o2) (hB : Big G d b M args w o w2) : Big G d b M args w o2 w2 := by rw [← h]; exact hB
theorem xc_14 : Cond.classLink "MapScalesLaw" 14 "java/lang/IndexOutOfBoundsException" ∈ gd_ := gc2 51 (by decide +kernel) rfl
theorem xc_16 : Cond.classLink "MapScalesLaw" 16 "java/lang/IllegalArgumentException" ∈ gd_ := gc2 131 (by decide +kernel) rfl
theorem xc_18 : Cond.classLink "MapScalesLaw" 18 "java/lang/UnsupportedOperationException" ∈ gd_ := gc2 132 (by decide +kernel) rfl
theorem xc_30 : Cond.classLink "MapScalesLaw" 30 "java/lang/IllegalStateException" ∈ gd_ := gc4 161 (by decide +kernel) rfl
theorem xc_53 : Cond.classLink "MapScalesLaw" 53 "java/util/NoSuchElementException" ∈ gd_ := gc3 85 (by decide +kernel) rfl
theorem nc_IllegalArg_IndexOutOf : ("java/lang/IllegalArgumentException", "java/lang/IndexOutOfBoundsException") ∈ ncs_ := List.mem_of_getElem? (i := 4) rfl
theorem nc_IllegalSta_IllegalArg : ("java/lang/IllegalStateException", "java/lang/IllegalArgumentException") ∈ ncs_ := List.mem_of_getElem? (i := 9) rfl
theorem nc_IllegalSta_IndexOutOf : ("java/lang/IllegalStateException", "java/lang/IndexOutOfBoundsException") ∈ ncs_ := List.mem_of_getElem? (i := 8) rfl
theorem nc_Unsupporte_IllegalArg : ("java/lang/UnsupportedOperationException", "java/lang/IllegalArgumentException") ∈ ncs_ := List.mem_of_getElem? (i := 13) rfl
theorem nc_Unsupporte_IllegalSta : ("java/lang/UnsupportedOperationException", "java/lang/IllegalStateException") ∈ ncs_ := List.mem_of_getElem? (i := 14) rfl
theorem nc_Unsupporte_IndexOutOf : ("java/lang/UnsupportedOperationException", "java/lang/IndexOutOfBoundsException") ∈ ncs_ := List.mem_of_getElem? (i := 12) rfl
theorem nc_NoSuchElem_IllegalArg : ("java/util/NoSuchElementException", "java/lang/IllegalArgumentException") ∈ ncs_ := List.mem_of_getElem? (i := 17) rfl
theorem nc_NoSuchElem_IndexOutOf : ("java/util/NoSuchElementException", "java/lang/IndexOutOfBoundsException") ∈ ncs_ := List.mem_of_getElem? (i := 16) rfl
theorem xt_IllegalArg : Cond.castable "java/lang/IllegalArgumentException" "java/lang/IllegalArgumentException" ∈ tables_1 := tc2 161 (by decide +kernel)
theorem xt_IllegalSta : Cond.castable "java/lang/IllegalStateException" "java/lang/IllegalStateException" ∈ tables_1 := tc4 169 (by decide +kernel)
theorem xt_IndexOutOf : Cond.castable "java/lang/IndexOutOfBoundsException" "java/lang/IndexOutOfBoundsException" ∈ tables_1 := tc2 145 (by decide +kernel)
theorem xt_Unsupporte : Cond.castable "java/lang/UnsupportedOperationException" "java/lang/UnsupportedOperationException" ∈ tables_1 := tc3 4 (by decide +kernel)
theorem xt_NoSuchElem : Cond.castable "java/util/NoSuchElementException" "java/util/NoSuchElementException" ∈ tables_1 := tc3 93 (by decide +kernel)
theorem cs01 {b : Bool} (q : bI b ≠ 0) : bI b = nI 1 := by
  cases b
  · exact absurd rfl q
  · rfl
theorem hp_nil {own E : String} : hp_ own E [] := fun z hz => by cases hz
theorem hp_cons {own E nm : String} {z : Nat × Nat × Nat × Nat} {l : List (Nat × Nat × Nat × Nat)} (h0 : z.2.2.2 ≠ 0) (h1 : Cond.classLink own z.2.2.2 nm ∈ gd_) (h2 : (E, nm) ∈ ncs_) (h : hp_ own E l) : hp_ own E (z :: l) := fun y hy => by
  rcases List.mem_cons.mp hy with rfl | hy
  · exact ⟨h0, nm, h1, h2⟩
  · exact h y hy
/-- what a call of the law answers: the class's answer, or a number for the exception -/
def lc_ (cs : List Int32) (r : Nat × Int32) : Int32 := if r.1 = 0 then r.2 else cs.getD (r.1 - 1) 0
def pL_ (cs : List Int32) (r : (Nat × Int32) × AS) (w : WS) : OT → WS → Prop := fun o w2 => o = .inl (some (.int (lc_ cs r.1))) ∧ aX r.2 w2 ∧ frG [(0, 114)] w w2
theorem le_paint {A : AS} {x : Int32} {y : Int32} : (spPaint A x y).1.1 ≤ 3 := by
  unfold spPaint spCh
  (repeat' split) <;> exact Nat.le_of_ble_eq_true rfl
set_option maxRecDepth 4000 in
theorem hL_paint {G : GX} {w : WS} {A : AS} (h : aX A w) (x : Int32) (y : Int32) : ∃ o w2, pL_ [(-11), (-12), (-14)] (spPaint A x y) w o w2 ∧ Big G 20 1 mL_paint [.ref 0, .int x, .int y] w o w2 := by
  obtain ⟨o, w1, ⟨ho, hA, hf⟩, hB⟩ := fX11_paint (G := G) h x y
  have hle : (spPaint A x y).1.1 ≤ 3 := le_paint
  generalize spPaint A x y = r at ho hA hle ⊢
  obtain ⟨⟨k, v⟩, A2⟩ := r
  have hle : k ≤ 3 := hle
  rcases Nat.eq_zero_or_pos k with rfl | hk
  · have hB := big_o (show o = .inl (some (.int v)) from ho) hB
    refine bx_of (P := pL_ [(-11), (-12), (-14)] ((0, v), A2) w) (by decide +kernel) (Nat.le_of_ble_eq_true rfl) ?_
    show Ex G 20 1 mL_paint 0 [some (.ref 0), some (.int x), some (.int y), none] [] w _
    refine ex_s (fun _ => ev_aload_n dL_paint_0 rfl) ?_
    refine ex_s (fun _ => ev_iload_n dL_paint_1 rfl) ?_
    refine ex_s (fun _ => ev_iload_n dL_paint_2 rfl) ?_
    refine ex_s2 (fun _ => ev_callV kL_8 co0 hB dL_paint_3 rfl (by decide) (by decide) rfl) ?_
    exact ⟨_, w1, ⟨rfl, hA, hf⟩, ev_iret dL_paint_6 rfl rfl rfl rfl⟩
  · have hk1 : 1 ≤ k := hk
    rcases (by omega : k = 1 ∨ k = 2 ∨ k = 3) with rfl | rfl | rfl
    · have hB := big_o (show o = .inr "java/lang/IndexOutOfBoundsException" from ho) hB
      refine bx_of (P := pL_ [(-11), (-12), (-14)] ((1, v), A2) w) (by decide +kernel) (Nat.le_of_ble_eq_true rfl) ?_
      show Ex G 20 1 mL_paint 0 [some (.ref 0), some (.int x), some (.int y), none] [] w _
      refine ex_s (fun _ => ev_aload_n dL_paint_0 rfl) ?_
      refine ex_s (fun _ => ev_iload_n dL_paint_1 rfl) ?_
      refine ex_s (fun _ => ev_iload_n dL_paint_2 rfl) ?_
      refine ex_s2 (fun Z => @ev_callVc G 20 1 _ 1 mL_paint mX11_paint 3 8 2 0 3 [some (.ref 0), some (.int x), some (.int y), none] [.int x, .int y] [] w w1 "java/lang/IndexOutOfBoundsException" Z kL_8 co0 hB dL_paint_3 rfl (by decide) (by decide) rfl [] [(0, 6, 11, 16), (0, 6, 15, 18)] (0, 6, 7, 14) rfl hp_nil (by decide) (by decide) (by decide) xc_14 xt_IndexOutOf 1 (Or.inl ⟨3, rfl, dL_paint_7, rfl⟩) (by decide) rfl) ?_
      refine ex_s (fun _ => ev_bipush (v := -11) dL_paint_8 (by decide)) ?_
      exact ⟨_, w1, ⟨rfl, hA, hf⟩, ev_iret dL_paint_10 rfl rfl rfl rfl⟩
    · have hB := big_o (show o = .inr "java/lang/IllegalArgumentException" from ho) hB
      refine bx_of (P := pL_ [(-11), (-12), (-14)] ((2, v), A2) w) (by decide +kernel) (Nat.le_of_ble_eq_true rfl) ?_
      show Ex G 20 1 mL_paint 0 [some (.ref 0), some (.int x), some (.int y), none] [] w _
      refine ex_s (fun _ => ev_aload_n dL_paint_0 rfl) ?_
      refine ex_s (fun _ => ev_iload_n dL_paint_1 rfl) ?_
      refine ex_s (fun _ => ev_iload_n dL_paint_2 rfl) ?_
      refine ex_s2 (fun Z => @ev_callVc G 20 1 _ 1 mL_paint mX11_paint 3 8 2 0 3 [some (.ref 0), some (.int x), some (.int y), none] [.int x, .int y] [] w w1 "java/lang/IllegalArgumentException" Z kL_8 co0 hB dL_paint_3 rfl (by decide) (by decide) rfl [(0, 6, 7, 14)] [(0, 6, 15, 18)] (0, 6, 11, 16) rfl (hp_cons (by decide) xc_14 nc_IllegalArg_IndexOutOf hp_nil) (by decide) (by decide) (by decide) xc_16 xt_IllegalArg 1 (Or.inl ⟨3, rfl, dL_paint_11, rfl⟩) (by decide) rfl) ?_
      refine ex_s (fun _ => ev_bipush (v := -12) dL_paint_12 (by decide)) ?_
      exact ⟨_, w1, ⟨rfl, hA, hf⟩, ev_iret dL_paint_14 rfl rfl rfl rfl⟩
    · have hB := big_o (show o = .inr "java/lang/UnsupportedOperationException" from ho) hB
      refine bx_of (P := pL_ [(-11), (-12), (-14)] ((3, v), A2) w) (by decide +kernel) (Nat.le_of_ble_eq_true rfl) ?_
      show Ex G 20 1 mL_paint 0 [some (.ref 0), some (.int x), some (.int y), none] [] w _
      refine ex_s (fun _ => ev_aload_n dL_paint_0 rfl) ?_
      refine ex_s (fun _ => ev_iload_n dL_paint_1 rfl) ?_
      refine ex_s (fun _ => ev_iload_n dL_paint_2 rfl) ?_
      refine ex_s2 (fun Z => @ev_callVc G 20 1 _ 1 mL_paint mX11_paint 3 8 2 0 3 [some (.ref 0), some (.int x), some (.int y), none] [.int x, .int y] [] w w1 "java/lang/UnsupportedOperationException" Z kL_8 co0 hB dL_paint_3 rfl (by decide) (by decide) rfl [(0, 6, 7, 14), (0, 6, 11, 16)] [] (0, 6, 15, 18) rfl (hp_cons (by decide) xc_14 nc_Unsupporte_IndexOutOf (hp_cons (by decide) xc_16 nc_Unsupporte_IllegalArg hp_nil)) (by decide) (by decide) (by decide) xc_18 xt_Unsupporte 1 (Or.inl ⟨3, rfl, dL_paint_15, rfl⟩) (by decide) rfl) ?_
      refine ex_s (fun _ => ev_bipush (v := -14) dL_paint_16 (by decide)) ?_
      exact ⟨_, w1, ⟨rfl, hA, hf⟩, ev_iret dL_paint_18 rfl rfl rfl rfl⟩
theorem le_shave {A : AS} {x : Int32} {y : Int32} : (spShave A x y).1.1 ≤ 2 := by
  unfold spShave spCh
  (repeat' split) <;> exact Nat.le_of_ble_eq_true rfl
set_option maxRecDepth 4000 in
theorem hL_shave {G : GX} {w : WS} {A : AS} (h : aX A w) (x : Int32) (y : Int32) : ∃ o w2, pL_ [(-11), (-14)] (spShave A x y) w o w2 ∧ Big G 20 1 mL_shave [.ref 0, .int x, .int y] w o w2 := by
  obtain ⟨o, w1, ⟨ho, hA, hf⟩, hB⟩ := fX11_shave (G := G) h x y
  have hle : (spShave A x y).1.1 ≤ 2 := le_shave
  generalize spShave A x y = r at ho hA hle ⊢
  obtain ⟨⟨k, v⟩, A2⟩ := r
  have hle : k ≤ 2 := hle
  rcases Nat.eq_zero_or_pos k with rfl | hk
  · have hB := big_o (show o = .inl (some (.int v)) from ho) hB
    refine bx_of (P := pL_ [(-11), (-14)] ((0, v), A2) w) (by decide +kernel) (Nat.le_of_ble_eq_true rfl) ?_
    show Ex G 20 1 mL_shave 0 [some (.ref 0), some (.int x), some (.int y), none] [] w _
    refine ex_s (fun _ => ev_aload_n dL_shave_0 rfl) ?_
    refine ex_s (fun _ => ev_iload_n dL_shave_1 rfl) ?_
    refine ex_s (fun _ => ev_iload_n dL_shave_2 rfl) ?_
    refine ex_s2 (fun _ => ev_callV kL_20 co0 hB dL_shave_3 rfl (by decide) (by decide) rfl) ?_
    exact ⟨_, w1, ⟨rfl, hA, hf⟩, ev_iret dL_shave_6 rfl rfl rfl rfl⟩
  · have hk1 : 1 ≤ k := hk
    rcases (by omega : k = 1 ∨ k = 2) with rfl | rfl
    · have hB := big_o (show o = .inr "java/lang/IndexOutOfBoundsException" from ho) hB
      refine bx_of (P := pL_ [(-11), (-14)] ((1, v), A2) w) (by decide +kernel) (Nat.le_of_ble_eq_true rfl) ?_
      show Ex G 20 1 mL_shave 0 [some (.ref 0), some (.int x), some (.int y), none] [] w _
      refine ex_s (fun _ => ev_aload_n dL_shave_0 rfl) ?_
      refine ex_s (fun _ => ev_iload_n dL_shave_1 rfl) ?_
      refine ex_s (fun _ => ev_iload_n dL_shave_2 rfl) ?_
      refine ex_s2 (fun Z => @ev_callVc G 20 1 _ 1 mL_shave mX11_shave 3 20 2 0 3 [some (.ref 0), some (.int x), some (.int y), none] [.int x, .int y] [] w w1 "java/lang/IndexOutOfBoundsException" Z kL_20 co0 hB dL_shave_3 rfl (by decide) (by decide) rfl [] [(0, 6, 11, 18)] (0, 6, 7, 14) rfl hp_nil (by decide) (by decide) (by decide) xc_14 xt_IndexOutOf 1 (Or.inl ⟨3, rfl, dL_shave_7, rfl⟩) (by decide) rfl) ?_
      refine ex_s (fun _ => ev_bipush (v := -11) dL_shave_8 (by decide)) ?_
      exact ⟨_, w1, ⟨rfl, hA, hf⟩, ev_iret dL_shave_10 rfl rfl rfl rfl⟩
    · have hB := big_o (show o = .inr "java/lang/UnsupportedOperationException" from ho) hB
      refine bx_of (P := pL_ [(-11), (-14)] ((2, v), A2) w) (by decide +kernel) (Nat.le_of_ble_eq_true rfl) ?_
      show Ex G 20 1 mL_shave 0 [some (.ref 0), some (.int x), some (.int y), none] [] w _
      refine ex_s (fun _ => ev_aload_n dL_shave_0 rfl) ?_
      refine ex_s (fun _ => ev_iload_n dL_shave_1 rfl) ?_
      refine ex_s (fun _ => ev_iload_n dL_shave_2 rfl) ?_
      refine ex_s2 (fun Z => @ev_callVc G 20 1 _ 1 mL_shave mX11_shave 3 20 2 0 3 [some (.ref 0), some (.int x), some (.int y), none] [.int x, .int y] [] w w1 "java/lang/UnsupportedOperationException" Z kL_20 co0 hB dL_shave_3 rfl (by decide) (by decide) rfl [(0, 6, 7, 14)] [] (0, 6, 11, 18) rfl (hp_cons (by decide) xc_14 nc_Unsupporte_IndexOutOf hp_nil) (by decide) (by decide) (by decide) xc_18 xt_Unsupporte 1 (Or.inl ⟨3, rfl, dL_shave_11, rfl⟩) (by decide) rfl) ?_
      refine ex_s (fun _ => ev_bipush (v := -14) dL_shave_12 (by decide)) ?_
      exact ⟨_, w1, ⟨rfl, hA, hf⟩, ev_iret dL_shave_14 rfl rfl rfl rfl⟩
theorem le_scale {A : AS} {x : Int32} : (spScale A x).1.1 ≤ 2 := by
  unfold spScale spCh
  (repeat' split) <;> exact Nat.le_of_ble_eq_true rfl
set_option maxRecDepth 4000 in
theorem hL_scale {G : GX} {w : WS} {A : AS} (h : aX A w) (x : Int32) : ∃ o w2, pL_ [(-12), (-14)] (spScale A x) w o w2 ∧ Big G 20 1 mL_scale [.ref 0, .int x] w o w2 := by
  obtain ⟨o, w1, ⟨ho, hA, hf⟩, hB⟩ := fX11_scale (G := G) h x
  have hle : (spScale A x).1.1 ≤ 2 := le_scale
  generalize spScale A x = r at ho hA hle ⊢
  obtain ⟨⟨k, v⟩, A2⟩ := r
  have hle : k ≤ 2 := hle
  rcases Nat.eq_zero_or_pos k with rfl | hk
  · have hB := big_o (show o = .inl (some (.int v)) from ho) hB
    refine bx_of (P := pL_ [(-12), (-14)] ((0, v), A2) w) (by decide +kernel) (Nat.le_of_ble_eq_true rfl) ?_
    show Ex G 20 1 mL_scale 0 [some (.ref 0), some (.int x), none] [] w _
    refine ex_s (fun _ => ev_aload_n dL_scale_0 rfl) ?_
    refine ex_s (fun _ => ev_iload_n dL_scale_1 rfl) ?_
    refine ex_s2 (fun _ => ev_callV kL_23 co0 hB dL_scale_2 rfl (by decide) (by decide) rfl) ?_
    exact ⟨_, w1, ⟨rfl, hA, hf⟩, ev_iret dL_scale_5 rfl rfl rfl rfl⟩
  · have hk1 : 1 ≤ k := hk
    rcases (by omega : k = 1 ∨ k = 2) with rfl | rfl
    · have hB := big_o (show o = .inr "java/lang/IllegalArgumentException" from ho) hB
      refine bx_of (P := pL_ [(-12), (-14)] ((1, v), A2) w) (by decide +kernel) (Nat.le_of_ble_eq_true rfl) ?_
      show Ex G 20 1 mL_scale 0 [some (.ref 0), some (.int x), none] [] w _
      refine ex_s (fun _ => ev_aload_n dL_scale_0 rfl) ?_
      refine ex_s (fun _ => ev_iload_n dL_scale_1 rfl) ?_
      refine ex_s2 (fun Z => @ev_callVc G 20 1 _ 1 mL_scale mX11_scale 2 23 1 0 2 [some (.ref 0), some (.int x), none] [.int x] [] w w1 "java/lang/IllegalArgumentException" Z kL_23 co0 hB dL_scale_2 rfl (by decide) (by decide) rfl [] [(0, 5, 10, 18)] (0, 5, 6, 16) rfl hp_nil (by decide) (by decide) (by decide) xc_16 xt_IllegalArg 1 (Or.inl ⟨2, rfl, dL_scale_6, rfl⟩) (by decide) rfl) ?_
      refine ex_s (fun _ => ev_bipush (v := -12) dL_scale_7 (by decide)) ?_
      exact ⟨_, w1, ⟨rfl, hA, hf⟩, ev_iret dL_scale_9 rfl rfl rfl rfl⟩
    · have hB := big_o (show o = .inr "java/lang/UnsupportedOperationException" from ho) hB
      refine bx_of (P := pL_ [(-12), (-14)] ((2, v), A2) w) (by decide +kernel) (Nat.le_of_ble_eq_true rfl) ?_
      show Ex G 20 1 mL_scale 0 [some (.ref 0), some (.int x), none] [] w _
      refine ex_s (fun _ => ev_aload_n dL_scale_0 rfl) ?_
      refine ex_s (fun _ => ev_iload_n dL_scale_1 rfl) ?_
      refine ex_s2 (fun Z => @ev_callVc G 20 1 _ 1 mL_scale mX11_scale 2 23 1 0 2 [some (.ref 0), some (.int x), none] [.int x] [] w w1 "java/lang/UnsupportedOperationException" Z kL_23 co0 hB dL_scale_2 rfl (by decide) (by decide) rfl [(0, 5, 6, 16)] [] (0, 5, 10, 18) rfl (hp_cons (by decide) xc_16 nc_Unsupporte_IllegalArg hp_nil) (by decide) (by decide) (by decide) xc_18 xt_Unsupporte 1 (Or.inl ⟨2, rfl, dL_scale_10, rfl⟩) (by decide) rfl) ?_
      refine ex_s (fun _ => ev_bipush (v := -14) dL_scale_11 (by decide)) ?_
      exact ⟨_, w1, ⟨rfl, hA, hf⟩, ev_iret dL_scale_13 rfl rfl rfl rfl⟩
theorem le_river {A : AS} {x : Int32} {y : Int32} : (spRiver A x y).1.1 ≤ 4 := by
  unfold spRiver spCh
  (repeat' split) <;> exact Nat.le_of_ble_eq_true rfl
set_option maxRecDepth 4000 in
theorem hL_river {G : GX} {w : WS} {A : AS} (h : aX A w) (x : Int32) (y : Int32) : ∃ o w2, pL_ [(-11), (-12), (-13), (-14)] (spRiver A x y) w o w2 ∧ Big G 20 1 mL_river [.ref 0, .int x, .int y] w o w2 := by
  obtain ⟨o, w1, ⟨ho, hA, hf⟩, hB⟩ := fX11_river (G := G) h x y
  have hle : (spRiver A x y).1.1 ≤ 4 := le_river
  generalize spRiver A x y = r at ho hA hle ⊢
  obtain ⟨⟨k, v⟩, A2⟩ := r
  have hle : k ≤ 4 := hle
  rcases Nat.eq_zero_or_pos k with rfl | hk
  · have hB := big_o (show o = .inl (some (.int v)) from ho) hB
    refine bx_of (P := pL_ [(-11), (-12), (-13), (-14)] ((0, v), A2) w) (by decide +kernel) (Nat.le_of_ble_eq_true rfl) ?_
    show Ex G 20 1 mL_river 0 [some (.ref 0), some (.int x), some (.int y), none] [] w _
    refine ex_s (fun _ => ev_aload_n dL_river_0 rfl) ?_
    refine ex_s (fun _ => ev_iload_n dL_river_1 rfl) ?_
    refine ex_s (fun _ => ev_iload_n dL_river_2 rfl) ?_
    refine ex_s2 (fun _ => ev_callV kL_27 co0 hB dL_river_3 rfl (by decide) (by decide) rfl) ?_
    exact ⟨_, w1, ⟨rfl, hA, hf⟩, ev_iret dL_river_6 rfl rfl rfl rfl⟩
  · have hk1 : 1 ≤ k := hk
    rcases (by omega : k = 1 ∨ k = 2 ∨ k = 3 ∨ k = 4) with rfl | rfl | rfl | rfl
    · have hB := big_o (show o = .inr "java/lang/IndexOutOfBoundsException" from ho) hB
      refine bx_of (P := pL_ [(-11), (-12), (-13), (-14)] ((1, v), A2) w) (by decide +kernel) (Nat.le_of_ble_eq_true rfl) ?_
      show Ex G 20 1 mL_river 0 [some (.ref 0), some (.int x), some (.int y), none] [] w _
      refine ex_s (fun _ => ev_aload_n dL_river_0 rfl) ?_
      refine ex_s (fun _ => ev_iload_n dL_river_1 rfl) ?_
      refine ex_s (fun _ => ev_iload_n dL_river_2 rfl) ?_
      refine ex_s2 (fun Z => @ev_callVc G 20 1 _ 1 mL_river mX11_river 3 27 2 0 3 [some (.ref 0), some (.int x), some (.int y), none] [.int x, .int y] [] w w1 "java/lang/IndexOutOfBoundsException" Z kL_27 co0 hB dL_river_3 rfl (by decide) (by decide) rfl [] [(0, 6, 11, 16), (0, 6, 15, 30), (0, 6, 19, 18)] (0, 6, 7, 14) rfl hp_nil (by decide) (by decide) (by decide) xc_14 xt_IndexOutOf 1 (Or.inl ⟨3, rfl, dL_river_7, rfl⟩) (by decide) rfl) ?_
      refine ex_s (fun _ => ev_bipush (v := -11) dL_river_8 (by decide)) ?_
      exact ⟨_, w1, ⟨rfl, hA, hf⟩, ev_iret dL_river_10 rfl rfl rfl rfl⟩
    · have hB := big_o (show o = .inr "java/lang/IllegalArgumentException" from ho) hB
      refine bx_of (P := pL_ [(-11), (-12), (-13), (-14)] ((2, v), A2) w) (by decide +kernel) (Nat.le_of_ble_eq_true rfl) ?_
      show Ex G 20 1 mL_river 0 [some (.ref 0), some (.int x), some (.int y), none] [] w _
      refine ex_s (fun _ => ev_aload_n dL_river_0 rfl) ?_
      refine ex_s (fun _ => ev_iload_n dL_river_1 rfl) ?_
      refine ex_s (fun _ => ev_iload_n dL_river_2 rfl) ?_
      refine ex_s2 (fun Z => @ev_callVc G 20 1 _ 1 mL_river mX11_river 3 27 2 0 3 [some (.ref 0), some (.int x), some (.int y), none] [.int x, .int y] [] w w1 "java/lang/IllegalArgumentException" Z kL_27 co0 hB dL_river_3 rfl (by decide) (by decide) rfl [(0, 6, 7, 14)] [(0, 6, 15, 30), (0, 6, 19, 18)] (0, 6, 11, 16) rfl (hp_cons (by decide) xc_14 nc_IllegalArg_IndexOutOf hp_nil) (by decide) (by decide) (by decide) xc_16 xt_IllegalArg 1 (Or.inl ⟨3, rfl, dL_river_11, rfl⟩) (by decide) rfl) ?_
      refine ex_s (fun _ => ev_bipush (v := -12) dL_river_12 (by decide)) ?_
      exact ⟨_, w1, ⟨rfl, hA, hf⟩, ev_iret dL_river_14 rfl rfl rfl rfl⟩
    · have hB := big_o (show o = .inr "java/lang/IllegalStateException" from ho) hB
      refine bx_of (P := pL_ [(-11), (-12), (-13), (-14)] ((3, v), A2) w) (by decide +kernel) (Nat.le_of_ble_eq_true rfl) ?_
      show Ex G 20 1 mL_river 0 [some (.ref 0), some (.int x), some (.int y), none] [] w _
      refine ex_s (fun _ => ev_aload_n dL_river_0 rfl) ?_
      refine ex_s (fun _ => ev_iload_n dL_river_1 rfl) ?_
      refine ex_s (fun _ => ev_iload_n dL_river_2 rfl) ?_
      refine ex_s2 (fun Z => @ev_callVc G 20 1 _ 1 mL_river mX11_river 3 27 2 0 3 [some (.ref 0), some (.int x), some (.int y), none] [.int x, .int y] [] w w1 "java/lang/IllegalStateException" Z kL_27 co0 hB dL_river_3 rfl (by decide) (by decide) rfl [(0, 6, 7, 14), (0, 6, 11, 16)] [(0, 6, 19, 18)] (0, 6, 15, 30) rfl (hp_cons (by decide) xc_14 nc_IllegalSta_IndexOutOf (hp_cons (by decide) xc_16 nc_IllegalSta_IllegalArg hp_nil)) (by decide) (by decide) (by decide) xc_30 xt_IllegalSta 1 (Or.inl ⟨3, rfl, dL_river_15, rfl⟩) (by decide) rfl) ?_
      refine ex_s (fun _ => ev_bipush (v := -13) dL_river_16 (by decide)) ?_
      exact ⟨_, w1, ⟨rfl, hA, hf⟩, ev_iret dL_river_18 rfl rfl rfl rfl⟩
    · have hB := big_o (show o = .inr "java/lang/UnsupportedOperationException" from ho) hB
      refine bx_of (P := pL_ [(-11), (-12), (-13), (-14)] ((4, v), A2) w) (by decide +kernel) (Nat.le_of_ble_eq_true rfl) ?_
      show Ex G 20 1 mL_river 0 [some (.ref 0), some (.int x), some (.int y), none] [] w _
      refine ex_s (fun _ => ev_aload_n dL_river_0 rfl) ?_
      refine ex_s (fun _ => ev_iload_n dL_river_1 rfl) ?_
      refine ex_s (fun _ => ev_iload_n dL_river_2 rfl) ?_
      refine ex_s2 (fun Z => @ev_callVc G 20 1 _ 1 mL_river mX11_river 3 27 2 0 3 [some (.ref 0), some (.int x), some (.int y), none] [.int x, .int y] [] w w1 "java/lang/UnsupportedOperationException" Z kL_27 co0 hB dL_river_3 rfl (by decide) (by decide) rfl [(0, 6, 7, 14), (0, 6, 11, 16), (0, 6, 15, 30)] [] (0, 6, 19, 18) rfl (hp_cons (by decide) xc_14 nc_Unsupporte_IndexOutOf (hp_cons (by decide) xc_16 nc_Unsupporte_IllegalArg (hp_cons (by decide) xc_30 nc_Unsupporte_IllegalSta hp_nil))) (by decide) (by decide) (by decide) xc_18 xt_Unsupporte 1 (Or.inl ⟨3, rfl, dL_river_19, rfl⟩) (by decide) rfl) ?_
      refine ex_s (fun _ => ev_bipush (v := -14) dL_river_20 (by decide)) ?_
      exact ⟨_, w1, ⟨rfl, hA, hf⟩, ev_iret dL_river_22 rfl rfl rfl rfl⟩
theorem le_drop {A : AS} {x : Int32} : (spDrop A x).1.1 ≤ 1 := by
  unfold spDrop spCh
  split
  · exact Nat.le_of_ble_eq_true rfl
  · rw [if_neg (fun z => z rfl)]; exact Nat.le_of_ble_eq_true rfl
set_option maxRecDepth 4000 in
theorem hL_drop {G : GX} {w : WS} {A : AS} (h : aX A w) (x : Int32) : ∃ o w2, pL_ [(-11)] (spDrop A x) w o w2 ∧ Big G 20 1 mL_drop [.ref 0, .int x] w o w2 := by
  obtain ⟨o, w1, ⟨ho, hA, hf⟩, hB⟩ := fX11_drop (G := G) h x
  have hle : (spDrop A x).1.1 ≤ 1 := le_drop
  generalize spDrop A x = r at ho hA hle ⊢
  obtain ⟨⟨k, v⟩, A2⟩ := r
  have hle : k ≤ 1 := hle
  rcases Nat.eq_zero_or_pos k with rfl | hk
  · have hB := big_o (show o = .inl (some (.int v)) from ho) hB
    refine bx_of (P := pL_ [(-11)] ((0, v), A2) w) (by decide +kernel) (Nat.le_of_ble_eq_true rfl) ?_
    show Ex G 20 1 mL_drop 0 [some (.ref 0), some (.int x), none] [] w _
    refine ex_s (fun _ => ev_aload_n dL_drop_0 rfl) ?_
    refine ex_s (fun _ => ev_iload_n dL_drop_1 rfl) ?_
    refine ex_s2 (fun _ => ev_callV kL_32 co0 hB dL_drop_2 rfl (by decide) (by decide) rfl) ?_
    exact ⟨_, w1, ⟨rfl, hA, hf⟩, ev_iret dL_drop_5 rfl rfl rfl rfl⟩
  · have hk1 : 1 ≤ k := hk
    obtain rfl : k = 1 := by omega
    skip
    have hB := big_o (show o = .inr "java/lang/IndexOutOfBoundsException" from ho) hB
    refine bx_of (P := pL_ [(-11)] ((1, v), A2) w) (by decide +kernel) (Nat.le_of_ble_eq_true rfl) ?_
    show Ex G 20 1 mL_drop 0 [some (.ref 0), some (.int x), none] [] w _
    refine ex_s (fun _ => ev_aload_n dL_drop_0 rfl) ?_
    refine ex_s (fun _ => ev_iload_n dL_drop_1 rfl) ?_
    refine ex_s2 (fun Z => @ev_callVc G 20 1 _ 1 mL_drop mX11_drop 2 32 1 0 2 [some (.ref 0), some (.int x), none] [.int x] [] w w1 "java/lang/IndexOutOfBoundsException" Z kL_32 co0 hB dL_drop_2 rfl (by decide) (by decide) rfl [] [] (0, 5, 6, 14) rfl hp_nil (by decide) (by decide) (by decide) xc_14 xt_IndexOutOf 1 (Or.inl ⟨2, rfl, dL_drop_6, rfl⟩) (by decide) rfl) ?_
    refine ex_s (fun _ => ev_bipush (v := -11) dL_drop_7 (by decide)) ?_
    exact ⟨_, w1, ⟨rfl, hA, hf⟩, ev_iret dL_drop_9 rfl rfl rfl rfl⟩
theorem le_dragon {A : AS} {x : Int32} {y : Int32} : (spDragon A x y).1.1 ≤ 3 := by
  unfold spDragon spCh
  (repeat' split) <;> exact Nat.le_of_ble_eq_true rfl
set_option maxRecDepth 4000 in
theorem hL_dragon {G : GX} {w : WS} {A : AS} (h : aX A w) (x : Int32) (y : Int32) : ∃ o w2, pL_ [(-11), (-12), (-14)] (spDragon A x y) w o w2 ∧ Big G 20 1 mL_dragon [.ref 0, .int x, .int y] w o w2 := by
  obtain ⟨o, w1, ⟨ho, hA, hf⟩, hB⟩ := fX11_dragon (G := G) h x y
  have hle : (spDragon A x y).1.1 ≤ 3 := le_dragon
  generalize spDragon A x y = r at ho hA hle ⊢
  obtain ⟨⟨k, v⟩, A2⟩ := r
  have hle : k ≤ 3 := hle
  rcases Nat.eq_zero_or_pos k with rfl | hk
  · have hB := big_o (show o = .inl (some (.int v)) from ho) hB
    refine bx_of (P := pL_ [(-11), (-12), (-14)] ((0, v), A2) w) (by decide +kernel) (Nat.le_of_ble_eq_true rfl) ?_
    show Ex G 20 1 mL_dragon 0 [some (.ref 0), some (.int x), some (.int y), none] [] w _
    refine ex_s (fun _ => ev_aload_n dL_dragon_0 rfl) ?_
    refine ex_s (fun _ => ev_iload_n dL_dragon_1 rfl) ?_
    refine ex_s (fun _ => ev_iload_n dL_dragon_2 rfl) ?_
    refine ex_s2 (fun _ => ev_callV kL_35 co0 hB dL_dragon_3 rfl (by decide) (by decide) rfl) ?_
    exact ⟨_, w1, ⟨rfl, hA, hf⟩, ev_iret dL_dragon_6 rfl rfl rfl rfl⟩
  · have hk1 : 1 ≤ k := hk
    rcases (by omega : k = 1 ∨ k = 2 ∨ k = 3) with rfl | rfl | rfl
    · have hB := big_o (show o = .inr "java/lang/IndexOutOfBoundsException" from ho) hB
      refine bx_of (P := pL_ [(-11), (-12), (-14)] ((1, v), A2) w) (by decide +kernel) (Nat.le_of_ble_eq_true rfl) ?_
      show Ex G 20 1 mL_dragon 0 [some (.ref 0), some (.int x), some (.int y), none] [] w _
      refine ex_s (fun _ => ev_aload_n dL_dragon_0 rfl) ?_
      refine ex_s (fun _ => ev_iload_n dL_dragon_1 rfl) ?_
      refine ex_s (fun _ => ev_iload_n dL_dragon_2 rfl) ?_
      refine ex_s2 (fun Z => @ev_callVc G 20 1 _ 1 mL_dragon mX11_dragon 3 35 2 0 3 [some (.ref 0), some (.int x), some (.int y), none] [.int x, .int y] [] w w1 "java/lang/IndexOutOfBoundsException" Z kL_35 co0 hB dL_dragon_3 rfl (by decide) (by decide) rfl [] [(0, 6, 11, 16), (0, 6, 15, 18)] (0, 6, 7, 14) rfl hp_nil (by decide) (by decide) (by decide) xc_14 xt_IndexOutOf 1 (Or.inl ⟨3, rfl, dL_dragon_7, rfl⟩) (by decide) rfl) ?_
      refine ex_s (fun _ => ev_bipush (v := -11) dL_dragon_8 (by decide)) ?_
      exact ⟨_, w1, ⟨rfl, hA, hf⟩, ev_iret dL_dragon_10 rfl rfl rfl rfl⟩
    · have hB := big_o (show o = .inr "java/lang/IllegalArgumentException" from ho) hB
      refine bx_of (P := pL_ [(-11), (-12), (-14)] ((2, v), A2) w) (by decide +kernel) (Nat.le_of_ble_eq_true rfl) ?_
      show Ex G 20 1 mL_dragon 0 [some (.ref 0), some (.int x), some (.int y), none] [] w _
      refine ex_s (fun _ => ev_aload_n dL_dragon_0 rfl) ?_
      refine ex_s (fun _ => ev_iload_n dL_dragon_1 rfl) ?_
      refine ex_s (fun _ => ev_iload_n dL_dragon_2 rfl) ?_
      refine ex_s2 (fun Z => @ev_callVc G 20 1 _ 1 mL_dragon mX11_dragon 3 35 2 0 3 [some (.ref 0), some (.int x), some (.int y), none] [.int x, .int y] [] w w1 "java/lang/IllegalArgumentException" Z kL_35 co0 hB dL_dragon_3 rfl (by decide) (by decide) rfl [(0, 6, 7, 14)] [(0, 6, 15, 18)] (0, 6, 11, 16) rfl (hp_cons (by decide) xc_14 nc_IllegalArg_IndexOutOf hp_nil) (by decide) (by decide) (by decide) xc_16 xt_IllegalArg 1 (Or.inl ⟨3, rfl, dL_dragon_11, rfl⟩) (by decide) rfl) ?_
      refine ex_s (fun _ => ev_bipush (v := -12) dL_dragon_12 (by decide)) ?_
      exact ⟨_, w1, ⟨rfl, hA, hf⟩, ev_iret dL_dragon_14 rfl rfl rfl rfl⟩
    · have hB := big_o (show o = .inr "java/lang/UnsupportedOperationException" from ho) hB
      refine bx_of (P := pL_ [(-11), (-12), (-14)] ((3, v), A2) w) (by decide +kernel) (Nat.le_of_ble_eq_true rfl) ?_
      show Ex G 20 1 mL_dragon 0 [some (.ref 0), some (.int x), some (.int y), none] [] w _
      refine ex_s (fun _ => ev_aload_n dL_dragon_0 rfl) ?_
      refine ex_s (fun _ => ev_iload_n dL_dragon_1 rfl) ?_
      refine ex_s (fun _ => ev_iload_n dL_dragon_2 rfl) ?_
      refine ex_s2 (fun Z => @ev_callVc G 20 1 _ 1 mL_dragon mX11_dragon 3 35 2 0 3 [some (.ref 0), some (.int x), some (.int y), none] [.int x, .int y] [] w w1 "java/lang/UnsupportedOperationException" Z kL_35 co0 hB dL_dragon_3 rfl (by decide) (by decide) rfl [(0, 6, 7, 14), (0, 6, 11, 16)] [] (0, 6, 15, 18) rfl (hp_cons (by decide) xc_14 nc_Unsupporte_IndexOutOf (hp_cons (by decide) xc_16 nc_Unsupporte_IllegalArg hp_nil)) (by decide) (by decide) (by decide) xc_18 xt_Unsupporte 1 (Or.inl ⟨3, rfl, dL_dragon_15, rfl⟩) (by decide) rfl) ?_
      refine ex_s (fun _ => ev_bipush (v := -14) dL_dragon_16 (by decide)) ?_
      exact ⟨_, w1, ⟨rfl, hA, hf⟩, ev_iret dL_dragon_18 rfl rfl rfl rfl⟩
theorem le_scare {A : AS} {x : Int32} : (spScare A x).1.1 ≤ 1 := by
  unfold spScare spCh
  split
  · exact Nat.le_of_ble_eq_true rfl
  · rw [if_neg (fun z => z rfl)]; exact Nat.le_of_ble_eq_true rfl
set_option maxRecDepth 4000 in
theorem hL_scare {G : GX} {w : WS} {A : AS} (h : aX A w) (x : Int32) : ∃ o w2, pL_ [(-11)] (spScare A x) w o w2 ∧ Big G 20 1 mL_scare [.ref 0, .int x] w o w2 := by
  obtain ⟨o, w1, ⟨ho, hA, hf⟩, hB⟩ := fX11_scare (G := G) h x
  have hle : (spScare A x).1.1 ≤ 1 := le_scare
  generalize spScare A x = r at ho hA hle ⊢
  obtain ⟨⟨k, v⟩, A2⟩ := r
  have hle : k ≤ 1 := hle
  rcases Nat.eq_zero_or_pos k with rfl | hk
  · have hB := big_o (show o = .inl (some (.int v)) from ho) hB
    refine bx_of (P := pL_ [(-11)] ((0, v), A2) w) (by decide +kernel) (Nat.le_of_ble_eq_true rfl) ?_
    show Ex G 20 1 mL_scare 0 [some (.ref 0), some (.int x), none] [] w _
    refine ex_s (fun _ => ev_aload_n dL_scare_0 rfl) ?_
    refine ex_s (fun _ => ev_iload_n dL_scare_1 rfl) ?_
    refine ex_s2 (fun _ => ev_callV kL_38 co0 hB dL_scare_2 rfl (by decide) (by decide) rfl) ?_
    exact ⟨_, w1, ⟨rfl, hA, hf⟩, ev_iret dL_scare_5 rfl rfl rfl rfl⟩
  · have hk1 : 1 ≤ k := hk
    obtain rfl : k = 1 := by omega
    skip
    have hB := big_o (show o = .inr "java/lang/IndexOutOfBoundsException" from ho) hB
    refine bx_of (P := pL_ [(-11)] ((1, v), A2) w) (by decide +kernel) (Nat.le_of_ble_eq_true rfl) ?_
    show Ex G 20 1 mL_scare 0 [some (.ref 0), some (.int x), none] [] w _
    refine ex_s (fun _ => ev_aload_n dL_scare_0 rfl) ?_
    refine ex_s (fun _ => ev_iload_n dL_scare_1 rfl) ?_
    refine ex_s2 (fun Z => @ev_callVc G 20 1 _ 1 mL_scare mX11_scare 2 38 1 0 2 [some (.ref 0), some (.int x), none] [.int x] [] w w1 "java/lang/IndexOutOfBoundsException" Z kL_38 co0 hB dL_scare_2 rfl (by decide) (by decide) rfl [] [] (0, 5, 6, 14) rfl hp_nil (by decide) (by decide) (by decide) xc_14 xt_IndexOutOf 1 (Or.inl ⟨2, rfl, dL_scare_6, rfl⟩) (by decide) rfl) ?_
    refine ex_s (fun _ => ev_bipush (v := -11) dL_scare_7 (by decide)) ?_
    exact ⟨_, w1, ⟨rfl, hA, hf⟩, ev_iret dL_scare_9 rfl rfl rfl rfl⟩
theorem le_realmAt {A : AS} {x : Int32} : ((qAt (aS A) x, A)).1.1 ≤ 1 := by
  show (qAt (aS A) x).1 ≤ 1
  unfold qAt
  (repeat' split) <;> exact Nat.le_of_ble_eq_true rfl
set_option maxRecDepth 4000 in
theorem hL_realmAt {G : GX} {w : WS} {A : AS} (h : aX A w) (x : Int32) : ∃ o w2, pL_ [(-11)] ((qAt (aS A) x, A)) w o w2 ∧ Big G 20 1 mL_realmAt [.ref 0, .int x] w o w2 := by
  obtain ⟨o, w1, ⟨ho, hA, hf⟩, hB⟩ := fX11_realmAt (G := G) h x
  have hle : ((qAt (aS A) x, A)).1.1 ≤ 1 := le_realmAt
  generalize (qAt (aS A) x, A) = r at ho hA hle ⊢
  obtain ⟨⟨k, v⟩, A2⟩ := r
  have hle : k ≤ 1 := hle
  rcases Nat.eq_zero_or_pos k with rfl | hk
  · have hB := big_o (show o = .inl (some (.int v)) from ho) hB
    refine bx_of (P := pL_ [(-11)] ((0, v), A2) w) (by decide +kernel) (Nat.le_of_ble_eq_true rfl) ?_
    show Ex G 20 1 mL_realmAt 0 [some (.ref 0), some (.int x), none] [] w _
    refine ex_s (fun _ => ev_aload_n dL_realmAt_0 rfl) ?_
    refine ex_s (fun _ => ev_iload_n dL_realmAt_1 rfl) ?_
    refine ex_s2 (fun _ => ev_callV kL_41 co0 hB dL_realmAt_2 rfl (by decide) (by decide) rfl) ?_
    exact ⟨_, w1, ⟨rfl, hA, hf⟩, ev_iret dL_realmAt_5 rfl rfl rfl rfl⟩
  · have hk1 : 1 ≤ k := hk
    obtain rfl : k = 1 := by omega
    skip
    have hB := big_o (show o = .inr "java/lang/IndexOutOfBoundsException" from ho) hB
    refine bx_of (P := pL_ [(-11)] ((1, v), A2) w) (by decide +kernel) (Nat.le_of_ble_eq_true rfl) ?_
    show Ex G 20 1 mL_realmAt 0 [some (.ref 0), some (.int x), none] [] w _
    refine ex_s (fun _ => ev_aload_n dL_realmAt_0 rfl) ?_
    refine ex_s (fun _ => ev_iload_n dL_realmAt_1 rfl) ?_
    refine ex_s2 (fun Z => @ev_callVc G 20 1 _ 1 mL_realmAt mX11_realmAt 2 41 1 0 2 [some (.ref 0), some (.int x), none] [.int x] [] w w1 "java/lang/IndexOutOfBoundsException" Z kL_41 co0 hB dL_realmAt_2 rfl (by decide) (by decide) rfl [] [] (0, 5, 6, 14) rfl hp_nil (by decide) (by decide) (by decide) xc_14 xt_IndexOutOf 1 (Or.inl ⟨2, rfl, dL_realmAt_6, rfl⟩) (by decide) rfl) ?_
    refine ex_s (fun _ => ev_bipush (v := -11) dL_realmAt_7 (by decide)) ?_
    exact ⟨_, w1, ⟨rfl, hA, hf⟩, ev_iret dL_realmAt_9 rfl rfl rfl rfl⟩
theorem le_realmOf {A : AS} {x : Int32} {y : Int32} : ((qRo (aS A) x y, A)).1.1 ≤ 2 := by
  show (qRo (aS A) x y).1 ≤ 2
  unfold qRo
  (repeat' split) <;> exact Nat.le_of_ble_eq_true rfl
set_option maxRecDepth 4000 in
theorem hL_realmOf {G : GX} {w : WS} {A : AS} (h : aX A w) (x : Int32) (y : Int32) : ∃ o w2, pL_ [(-11), (-12)] ((qRo (aS A) x y, A)) w o w2 ∧ Big G 20 1 mL_realmOf [.ref 0, .int x, .int y] w o w2 := by
  obtain ⟨o, w1, ⟨ho, hA, hf⟩, hB⟩ := fX11_realmOf (G := G) h x y
  have hle : ((qRo (aS A) x y, A)).1.1 ≤ 2 := le_realmOf
  generalize (qRo (aS A) x y, A) = r at ho hA hle ⊢
  obtain ⟨⟨k, v⟩, A2⟩ := r
  have hle : k ≤ 2 := hle
  rcases Nat.eq_zero_or_pos k with rfl | hk
  · have hB := big_o (show o = .inl (some (.int v)) from ho) hB
    refine bx_of (P := pL_ [(-11), (-12)] ((0, v), A2) w) (by decide +kernel) (Nat.le_of_ble_eq_true rfl) ?_
    show Ex G 20 1 mL_realmOf 0 [some (.ref 0), some (.int x), some (.int y), none] [] w _
    refine ex_s (fun _ => ev_aload_n dL_realmOf_0 rfl) ?_
    refine ex_s (fun _ => ev_iload_n dL_realmOf_1 rfl) ?_
    refine ex_s (fun _ => ev_iload_n dL_realmOf_2 rfl) ?_
    refine ex_s2 (fun _ => ev_callV kL_44 co0 hB dL_realmOf_3 rfl (by decide) (by decide) rfl) ?_
    exact ⟨_, w1, ⟨rfl, hA, hf⟩, ev_iret dL_realmOf_6 rfl rfl rfl rfl⟩
  · have hk1 : 1 ≤ k := hk
    rcases (by omega : k = 1 ∨ k = 2) with rfl | rfl
    · have hB := big_o (show o = .inr "java/lang/IndexOutOfBoundsException" from ho) hB
      refine bx_of (P := pL_ [(-11), (-12)] ((1, v), A2) w) (by decide +kernel) (Nat.le_of_ble_eq_true rfl) ?_
      show Ex G 20 1 mL_realmOf 0 [some (.ref 0), some (.int x), some (.int y), none] [] w _
      refine ex_s (fun _ => ev_aload_n dL_realmOf_0 rfl) ?_
      refine ex_s (fun _ => ev_iload_n dL_realmOf_1 rfl) ?_
      refine ex_s (fun _ => ev_iload_n dL_realmOf_2 rfl) ?_
      refine ex_s2 (fun Z => @ev_callVc G 20 1 _ 1 mL_realmOf mX11_realmOf 3 44 2 0 3 [some (.ref 0), some (.int x), some (.int y), none] [.int x, .int y] [] w w1 "java/lang/IndexOutOfBoundsException" Z kL_44 co0 hB dL_realmOf_3 rfl (by decide) (by decide) rfl [] [(0, 6, 11, 16)] (0, 6, 7, 14) rfl hp_nil (by decide) (by decide) (by decide) xc_14 xt_IndexOutOf 1 (Or.inl ⟨3, rfl, dL_realmOf_7, rfl⟩) (by decide) rfl) ?_
      refine ex_s (fun _ => ev_bipush (v := -11) dL_realmOf_8 (by decide)) ?_
      exact ⟨_, w1, ⟨rfl, hA, hf⟩, ev_iret dL_realmOf_10 rfl rfl rfl rfl⟩
    · have hB := big_o (show o = .inr "java/lang/IllegalArgumentException" from ho) hB
      refine bx_of (P := pL_ [(-11), (-12)] ((2, v), A2) w) (by decide +kernel) (Nat.le_of_ble_eq_true rfl) ?_
      show Ex G 20 1 mL_realmOf 0 [some (.ref 0), some (.int x), some (.int y), none] [] w _
      refine ex_s (fun _ => ev_aload_n dL_realmOf_0 rfl) ?_
      refine ex_s (fun _ => ev_iload_n dL_realmOf_1 rfl) ?_
      refine ex_s (fun _ => ev_iload_n dL_realmOf_2 rfl) ?_
      refine ex_s2 (fun Z => @ev_callVc G 20 1 _ 1 mL_realmOf mX11_realmOf 3 44 2 0 3 [some (.ref 0), some (.int x), some (.int y), none] [.int x, .int y] [] w w1 "java/lang/IllegalArgumentException" Z kL_44 co0 hB dL_realmOf_3 rfl (by decide) (by decide) rfl [(0, 6, 7, 14)] [] (0, 6, 11, 16) rfl (hp_cons (by decide) xc_14 nc_IllegalArg_IndexOutOf hp_nil) (by decide) (by decide) (by decide) xc_16 xt_IllegalArg 1 (Or.inl ⟨3, rfl, dL_realmOf_11, rfl⟩) (by decide) rfl) ?_
      refine ex_s (fun _ => ev_bipush (v := -12) dL_realmOf_12 (by decide)) ?_
      exact ⟨_, w1, ⟨rfl, hA, hf⟩, ev_iret dL_realmOf_14 rfl rfl rfl rfl⟩
theorem le_riverOf {A : AS} {x : Int32} {y : Int32} : ((qRv (aS A) x y, A)).1.1 ≤ 2 := by
  show (qRv (aS A) x y).1 ≤ 2
  unfold qRv
  (repeat' split) <;> exact Nat.le_of_ble_eq_true rfl
set_option maxRecDepth 4000 in
theorem hL_riverOf {G : GX} {w : WS} {A : AS} (h : aX A w) (x : Int32) (y : Int32) : ∃ o w2, pL_ [(-11), (-12)] ((qRv (aS A) x y, A)) w o w2 ∧ Big G 20 1 mL_riverOf [.ref 0, .int x, .int y] w o w2 := by
  obtain ⟨o, w1, ⟨ho, hA, hf⟩, hB⟩ := fX11_riverOf (G := G) h x y
  have hle : ((qRv (aS A) x y, A)).1.1 ≤ 2 := le_riverOf
  generalize (qRv (aS A) x y, A) = r at ho hA hle ⊢
  obtain ⟨⟨k, v⟩, A2⟩ := r
  have hle : k ≤ 2 := hle
  rcases Nat.eq_zero_or_pos k with rfl | hk
  · have hB := big_o (show o = .inl (some (.int v)) from ho) hB
    refine bx_of (P := pL_ [(-11), (-12)] ((0, v), A2) w) (by decide +kernel) (Nat.le_of_ble_eq_true rfl) ?_
    show Ex G 20 1 mL_riverOf 0 [some (.ref 0), some (.int x), some (.int y), none] [] w _
    refine ex_s (fun _ => ev_aload_n dL_riverOf_0 rfl) ?_
    refine ex_s (fun _ => ev_iload_n dL_riverOf_1 rfl) ?_
    refine ex_s (fun _ => ev_iload_n dL_riverOf_2 rfl) ?_
    refine ex_s2 (fun _ => ev_callV kL_47 co0 hB dL_riverOf_3 rfl (by decide) (by decide) rfl) ?_
    exact ⟨_, w1, ⟨rfl, hA, hf⟩, ev_iret dL_riverOf_6 rfl rfl rfl rfl⟩
  · have hk1 : 1 ≤ k := hk
    rcases (by omega : k = 1 ∨ k = 2) with rfl | rfl
    · have hB := big_o (show o = .inr "java/lang/IndexOutOfBoundsException" from ho) hB
      refine bx_of (P := pL_ [(-11), (-12)] ((1, v), A2) w) (by decide +kernel) (Nat.le_of_ble_eq_true rfl) ?_
      show Ex G 20 1 mL_riverOf 0 [some (.ref 0), some (.int x), some (.int y), none] [] w _
      refine ex_s (fun _ => ev_aload_n dL_riverOf_0 rfl) ?_
      refine ex_s (fun _ => ev_iload_n dL_riverOf_1 rfl) ?_
      refine ex_s (fun _ => ev_iload_n dL_riverOf_2 rfl) ?_
      refine ex_s2 (fun Z => @ev_callVc G 20 1 _ 1 mL_riverOf mX11_riverOf 3 47 2 0 3 [some (.ref 0), some (.int x), some (.int y), none] [.int x, .int y] [] w w1 "java/lang/IndexOutOfBoundsException" Z kL_47 co0 hB dL_riverOf_3 rfl (by decide) (by decide) rfl [] [(0, 6, 11, 16)] (0, 6, 7, 14) rfl hp_nil (by decide) (by decide) (by decide) xc_14 xt_IndexOutOf 1 (Or.inl ⟨3, rfl, dL_riverOf_7, rfl⟩) (by decide) rfl) ?_
      refine ex_s (fun _ => ev_bipush (v := -11) dL_riverOf_8 (by decide)) ?_
      exact ⟨_, w1, ⟨rfl, hA, hf⟩, ev_iret dL_riverOf_10 rfl rfl rfl rfl⟩
    · have hB := big_o (show o = .inr "java/lang/IllegalArgumentException" from ho) hB
      refine bx_of (P := pL_ [(-11), (-12)] ((2, v), A2) w) (by decide +kernel) (Nat.le_of_ble_eq_true rfl) ?_
      show Ex G 20 1 mL_riverOf 0 [some (.ref 0), some (.int x), some (.int y), none] [] w _
      refine ex_s (fun _ => ev_aload_n dL_riverOf_0 rfl) ?_
      refine ex_s (fun _ => ev_iload_n dL_riverOf_1 rfl) ?_
      refine ex_s (fun _ => ev_iload_n dL_riverOf_2 rfl) ?_
      refine ex_s2 (fun Z => @ev_callVc G 20 1 _ 1 mL_riverOf mX11_riverOf 3 47 2 0 3 [some (.ref 0), some (.int x), some (.int y), none] [.int x, .int y] [] w w1 "java/lang/IllegalArgumentException" Z kL_47 co0 hB dL_riverOf_3 rfl (by decide) (by decide) rfl [(0, 6, 7, 14)] [] (0, 6, 11, 16) rfl (hp_cons (by decide) xc_14 nc_IllegalArg_IndexOutOf hp_nil) (by decide) (by decide) (by decide) xc_16 xt_IllegalArg 1 (Or.inl ⟨3, rfl, dL_riverOf_11, rfl⟩) (by decide) rfl) ?_
      refine ex_s (fun _ => ev_bipush (v := -12) dL_riverOf_12 (by decide)) ?_
      exact ⟨_, w1, ⟨rfl, hA, hf⟩, ev_iret dL_riverOf_14 rfl rfl rfl rfl⟩
theorem le_riverAt {A : AS} {x : Int32} {y : Int32} : ((qRa (aS A) x y, A)).1.1 ≤ 2 := by
  show (qRa (aS A) x y).1 ≤ 2
  unfold qRa
  (repeat' split) <;> exact Nat.le_of_ble_eq_true rfl
set_option maxRecDepth 4000 in
theorem hL_riverAt {G : GX} {w : WS} {A : AS} (h : aX A w) (x : Int32) (y : Int32) : ∃ o w2, pL_ [(-11), (-15)] ((qRa (aS A) x y, A)) w o w2 ∧ Big G 20 1 mL_riverAt [.ref 0, .int x, .int y] w o w2 := by
  obtain ⟨o, w1, ⟨ho, hA, hf⟩, hB⟩ := fX11_riverAt (G := G) h x y
  have hle : ((qRa (aS A) x y, A)).1.1 ≤ 2 := le_riverAt
  generalize (qRa (aS A) x y, A) = r at ho hA hle ⊢
  obtain ⟨⟨k, v⟩, A2⟩ := r
  have hle : k ≤ 2 := hle
  rcases Nat.eq_zero_or_pos k with rfl | hk
  · have hB := big_o (show o = .inl (some (.int v)) from ho) hB
    refine bx_of (P := pL_ [(-11), (-15)] ((0, v), A2) w) (by decide +kernel) (Nat.le_of_ble_eq_true rfl) ?_
    show Ex G 20 1 mL_riverAt 0 [some (.ref 0), some (.int x), some (.int y), none] [] w _
    refine ex_s (fun _ => ev_aload_n dL_riverAt_0 rfl) ?_
    refine ex_s (fun _ => ev_iload_n dL_riverAt_1 rfl) ?_
    refine ex_s (fun _ => ev_iload_n dL_riverAt_2 rfl) ?_
    refine ex_s2 (fun _ => ev_callV kL_50 co0 hB dL_riverAt_3 rfl (by decide) (by decide) rfl) ?_
    exact ⟨_, w1, ⟨rfl, hA, hf⟩, ev_iret dL_riverAt_6 rfl rfl rfl rfl⟩
  · have hk1 : 1 ≤ k := hk
    rcases (by omega : k = 1 ∨ k = 2) with rfl | rfl
    · have hB := big_o (show o = .inr "java/lang/IndexOutOfBoundsException" from ho) hB
      refine bx_of (P := pL_ [(-11), (-15)] ((1, v), A2) w) (by decide +kernel) (Nat.le_of_ble_eq_true rfl) ?_
      show Ex G 20 1 mL_riverAt 0 [some (.ref 0), some (.int x), some (.int y), none] [] w _
      refine ex_s (fun _ => ev_aload_n dL_riverAt_0 rfl) ?_
      refine ex_s (fun _ => ev_iload_n dL_riverAt_1 rfl) ?_
      refine ex_s (fun _ => ev_iload_n dL_riverAt_2 rfl) ?_
      refine ex_s2 (fun Z => @ev_callVc G 20 1 _ 1 mL_riverAt mX11_riverAt 3 50 2 0 3 [some (.ref 0), some (.int x), some (.int y), none] [.int x, .int y] [] w w1 "java/lang/IndexOutOfBoundsException" Z kL_50 co0 hB dL_riverAt_3 rfl (by decide) (by decide) rfl [] [(0, 6, 11, 53)] (0, 6, 7, 14) rfl hp_nil (by decide) (by decide) (by decide) xc_14 xt_IndexOutOf 1 (Or.inl ⟨3, rfl, dL_riverAt_7, rfl⟩) (by decide) rfl) ?_
      refine ex_s (fun _ => ev_bipush (v := -11) dL_riverAt_8 (by decide)) ?_
      exact ⟨_, w1, ⟨rfl, hA, hf⟩, ev_iret dL_riverAt_10 rfl rfl rfl rfl⟩
    · have hB := big_o (show o = .inr "java/util/NoSuchElementException" from ho) hB
      refine bx_of (P := pL_ [(-11), (-15)] ((2, v), A2) w) (by decide +kernel) (Nat.le_of_ble_eq_true rfl) ?_
      show Ex G 20 1 mL_riverAt 0 [some (.ref 0), some (.int x), some (.int y), none] [] w _
      refine ex_s (fun _ => ev_aload_n dL_riverAt_0 rfl) ?_
      refine ex_s (fun _ => ev_iload_n dL_riverAt_1 rfl) ?_
      refine ex_s (fun _ => ev_iload_n dL_riverAt_2 rfl) ?_
      refine ex_s2 (fun Z => @ev_callVc G 20 1 _ 1 mL_riverAt mX11_riverAt 3 50 2 0 3 [some (.ref 0), some (.int x), some (.int y), none] [.int x, .int y] [] w w1 "java/util/NoSuchElementException" Z kL_50 co0 hB dL_riverAt_3 rfl (by decide) (by decide) rfl [(0, 6, 7, 14)] [] (0, 6, 11, 53) rfl (hp_cons (by decide) xc_14 nc_NoSuchElem_IndexOutOf hp_nil) (by decide) (by decide) (by decide) xc_53 xt_NoSuchElem 1 (Or.inl ⟨3, rfl, dL_riverAt_11, rfl⟩) (by decide) rfl) ?_
      refine ex_s (fun _ => ev_bipush (v := -15) dL_riverAt_12 (by decide)) ?_
      exact ⟨_, w1, ⟨rfl, hA, hf⟩, ev_iret dL_riverAt_14 rfl rfl rfl rfl⟩
theorem le_dragonOf {A : AS} {x : Int32} {y : Int32} : ((qDr (aS A) x y, A)).1.1 ≤ 2 := by
  show (qDr (aS A) x y).1 ≤ 2
  unfold qDr
  (repeat' split) <;> exact Nat.le_of_ble_eq_true rfl
set_option maxRecDepth 4000 in
theorem hL_dragonOf {G : GX} {w : WS} {A : AS} (h : aX A w) (x : Int32) (y : Int32) : ∃ o w2, pL_ [(-11), (-12)] ((qDr (aS A) x y, A)) w o w2 ∧ Big G 20 1 mL_dragonOf [.ref 0, .int x, .int y] w o w2 := by
  obtain ⟨o, w1, ⟨ho, hA, hf⟩, hB⟩ := fX11_dragonOf (G := G) h x y
  have hle : ((qDr (aS A) x y, A)).1.1 ≤ 2 := le_dragonOf
  generalize (qDr (aS A) x y, A) = r at ho hA hle ⊢
  obtain ⟨⟨k, v⟩, A2⟩ := r
  have hle : k ≤ 2 := hle
  rcases Nat.eq_zero_or_pos k with rfl | hk
  · have hB := big_o (show o = .inl (some (.int v)) from ho) hB
    refine bx_of (P := pL_ [(-11), (-12)] ((0, v), A2) w) (by decide +kernel) (Nat.le_of_ble_eq_true rfl) ?_
    show Ex G 20 1 mL_dragonOf 0 [some (.ref 0), some (.int x), some (.int y), none] [] w _
    refine ex_s (fun _ => ev_aload_n dL_dragonOf_0 rfl) ?_
    refine ex_s (fun _ => ev_iload_n dL_dragonOf_1 rfl) ?_
    refine ex_s (fun _ => ev_iload_n dL_dragonOf_2 rfl) ?_
    refine ex_s2 (fun _ => ev_callV kL_55 co0 hB dL_dragonOf_3 rfl (by decide) (by decide) rfl) ?_
    exact ⟨_, w1, ⟨rfl, hA, hf⟩, ev_iret dL_dragonOf_6 rfl rfl rfl rfl⟩
  · have hk1 : 1 ≤ k := hk
    rcases (by omega : k = 1 ∨ k = 2) with rfl | rfl
    · have hB := big_o (show o = .inr "java/lang/IndexOutOfBoundsException" from ho) hB
      refine bx_of (P := pL_ [(-11), (-12)] ((1, v), A2) w) (by decide +kernel) (Nat.le_of_ble_eq_true rfl) ?_
      show Ex G 20 1 mL_dragonOf 0 [some (.ref 0), some (.int x), some (.int y), none] [] w _
      refine ex_s (fun _ => ev_aload_n dL_dragonOf_0 rfl) ?_
      refine ex_s (fun _ => ev_iload_n dL_dragonOf_1 rfl) ?_
      refine ex_s (fun _ => ev_iload_n dL_dragonOf_2 rfl) ?_
      refine ex_s2 (fun Z => @ev_callVc G 20 1 _ 1 mL_dragonOf mX11_dragonOf 3 55 2 0 3 [some (.ref 0), some (.int x), some (.int y), none] [.int x, .int y] [] w w1 "java/lang/IndexOutOfBoundsException" Z kL_55 co0 hB dL_dragonOf_3 rfl (by decide) (by decide) rfl [] [(0, 6, 11, 16)] (0, 6, 7, 14) rfl hp_nil (by decide) (by decide) (by decide) xc_14 xt_IndexOutOf 1 (Or.inl ⟨3, rfl, dL_dragonOf_7, rfl⟩) (by decide) rfl) ?_
      refine ex_s (fun _ => ev_bipush (v := -11) dL_dragonOf_8 (by decide)) ?_
      exact ⟨_, w1, ⟨rfl, hA, hf⟩, ev_iret dL_dragonOf_10 rfl rfl rfl rfl⟩
    · have hB := big_o (show o = .inr "java/lang/IllegalArgumentException" from ho) hB
      refine bx_of (P := pL_ [(-11), (-12)] ((2, v), A2) w) (by decide +kernel) (Nat.le_of_ble_eq_true rfl) ?_
      show Ex G 20 1 mL_dragonOf 0 [some (.ref 0), some (.int x), some (.int y), none] [] w _
      refine ex_s (fun _ => ev_aload_n dL_dragonOf_0 rfl) ?_
      refine ex_s (fun _ => ev_iload_n dL_dragonOf_1 rfl) ?_
      refine ex_s (fun _ => ev_iload_n dL_dragonOf_2 rfl) ?_
      refine ex_s2 (fun Z => @ev_callVc G 20 1 _ 1 mL_dragonOf mX11_dragonOf 3 55 2 0 3 [some (.ref 0), some (.int x), some (.int y), none] [.int x, .int y] [] w w1 "java/lang/IllegalArgumentException" Z kL_55 co0 hB dL_dragonOf_3 rfl (by decide) (by decide) rfl [(0, 6, 7, 14)] [] (0, 6, 11, 16) rfl (hp_cons (by decide) xc_14 nc_IllegalArg_IndexOutOf hp_nil) (by decide) (by decide) (by decide) xc_16 xt_IllegalArg 1 (Or.inl ⟨3, rfl, dL_dragonOf_11, rfl⟩) (by decide) rfl) ?_
      refine ex_s (fun _ => ev_bipush (v := -12) dL_dragonOf_12 (by decide)) ?_
      exact ⟨_, w1, ⟨rfl, hA, hf⟩, ev_iret dL_dragonOf_14 rfl rfl rfl rfl⟩
theorem le_weight {A : AS} {x : Int32} : ((qWe (aS A) x, A)).1.1 ≤ 1 := by
  show (qWe (aS A) x).1 ≤ 1
  unfold qWe
  (repeat' split) <;> exact Nat.le_of_ble_eq_true rfl
set_option maxRecDepth 4000 in
theorem hL_weight {G : GX} {w : WS} {A : AS} (h : aX A w) (x : Int32) : ∃ o w2, pL_ [(-11)] ((qWe (aS A) x, A)) w o w2 ∧ Big G 20 1 mL_weight [.ref 0, .int x] w o w2 := by
  obtain ⟨o, w1, ⟨ho, hA, hf⟩, hB⟩ := fX11_weight (G := G) h x
  have hle : ((qWe (aS A) x, A)).1.1 ≤ 1 := le_weight
  generalize (qWe (aS A) x, A) = r at ho hA hle ⊢
  obtain ⟨⟨k, v⟩, A2⟩ := r
  have hle : k ≤ 1 := hle
  rcases Nat.eq_zero_or_pos k with rfl | hk
  · have hB := big_o (show o = .inl (some (.int v)) from ho) hB
    refine bx_of (P := pL_ [(-11)] ((0, v), A2) w) (by decide +kernel) (Nat.le_of_ble_eq_true rfl) ?_
    show Ex G 20 1 mL_weight 0 [some (.ref 0), some (.int x), none] [] w _
    refine ex_s (fun _ => ev_aload_n dL_weight_0 rfl) ?_
    refine ex_s (fun _ => ev_iload_n dL_weight_1 rfl) ?_
    refine ex_s2 (fun _ => ev_callV kL_58 co0 hB dL_weight_2 rfl (by decide) (by decide) rfl) ?_
    exact ⟨_, w1, ⟨rfl, hA, hf⟩, ev_iret dL_weight_5 rfl rfl rfl rfl⟩
  · have hk1 : 1 ≤ k := hk
    obtain rfl : k = 1 := by omega
    skip
    have hB := big_o (show o = .inr "java/lang/IndexOutOfBoundsException" from ho) hB
    refine bx_of (P := pL_ [(-11)] ((1, v), A2) w) (by decide +kernel) (Nat.le_of_ble_eq_true rfl) ?_
    show Ex G 20 1 mL_weight 0 [some (.ref 0), some (.int x), none] [] w _
    refine ex_s (fun _ => ev_aload_n dL_weight_0 rfl) ?_
    refine ex_s (fun _ => ev_iload_n dL_weight_1 rfl) ?_
    refine ex_s2 (fun Z => @ev_callVc G 20 1 _ 1 mL_weight mX11_weight 2 58 1 0 2 [some (.ref 0), some (.int x), none] [.int x] [] w w1 "java/lang/IndexOutOfBoundsException" Z kL_58 co0 hB dL_weight_2 rfl (by decide) (by decide) rfl [] [] (0, 5, 6, 14) rfl hp_nil (by decide) (by decide) (by decide) xc_14 xt_IndexOutOf 1 (Or.inl ⟨2, rfl, dL_weight_6, rfl⟩) (by decide) rfl) ?_
    refine ex_s (fun _ => ev_bipush (v := -11) dL_weight_7 (by decide)) ?_
    exact ⟨_, w1, ⟨rfl, hA, hf⟩, ev_iret dL_weight_9 rfl rfl rfl rfl⟩
theorem le_weightAgain {A : AS} {x : Int32} : ((qWe (aS A) x, A)).1.1 ≤ 1 := by
  show (qWe (aS A) x).1 ≤ 1
  unfold qWe
  (repeat' split) <;> exact Nat.le_of_ble_eq_true rfl
set_option maxRecDepth 4000 in
theorem hL_weightAgain {G : GX} {w : WS} {A : AS} (h : aX A w) (x : Int32) : ∃ o w2, pL_ [(-11)] ((qWe (aS A) x, A)) w o w2 ∧ Big G 20 1 mL_weightAgain [.ref 0, .int x] w o w2 := by
  obtain ⟨o, w1, ⟨ho, hA, hf⟩, hB⟩ := fX11_weightAgain (G := G) h x
  have hle : ((qWe (aS A) x, A)).1.1 ≤ 1 := le_weightAgain
  generalize (qWe (aS A) x, A) = r at ho hA hle ⊢
  obtain ⟨⟨k, v⟩, A2⟩ := r
  have hle : k ≤ 1 := hle
  rcases Nat.eq_zero_or_pos k with rfl | hk
  · have hB := big_o (show o = .inl (some (.int v)) from ho) hB
    refine bx_of (P := pL_ [(-11)] ((0, v), A2) w) (by decide +kernel) (Nat.le_of_ble_eq_true rfl) ?_
    show Ex G 20 1 mL_weightAgain 0 [some (.ref 0), some (.int x), none] [] w _
    refine ex_s (fun _ => ev_aload_n dL_weightAgain_0 rfl) ?_
    refine ex_s (fun _ => ev_iload_n dL_weightAgain_1 rfl) ?_
    refine ex_s2 (fun _ => ev_callV kL_61 co0 hB dL_weightAgain_2 rfl (by decide) (by decide) rfl) ?_
    exact ⟨_, w1, ⟨rfl, hA, hf⟩, ev_iret dL_weightAgain_5 rfl rfl rfl rfl⟩
  · have hk1 : 1 ≤ k := hk
    obtain rfl : k = 1 := by omega
    skip
    have hB := big_o (show o = .inr "java/lang/IndexOutOfBoundsException" from ho) hB
    refine bx_of (P := pL_ [(-11)] ((1, v), A2) w) (by decide +kernel) (Nat.le_of_ble_eq_true rfl) ?_
    show Ex G 20 1 mL_weightAgain 0 [some (.ref 0), some (.int x), none] [] w _
    refine ex_s (fun _ => ev_aload_n dL_weightAgain_0 rfl) ?_
    refine ex_s (fun _ => ev_iload_n dL_weightAgain_1 rfl) ?_
    refine ex_s2 (fun Z => @ev_callVc G 20 1 _ 1 mL_weightAgain mX11_weightAgain 2 61 1 0 2 [some (.ref 0), some (.int x), none] [.int x] [] w w1 "java/lang/IndexOutOfBoundsException" Z kL_61 co0 hB dL_weightAgain_2 rfl (by decide) (by decide) rfl [] [] (0, 5, 6, 14) rfl hp_nil (by decide) (by decide) (by decide) xc_14 xt_IndexOutOf 1 (Or.inl ⟨2, rfl, dL_weightAgain_6, rfl⟩) (by decide) rfl) ?_
    refine ex_s (fun _ => ev_bipush (v := -11) dL_weightAgain_7 (by decide)) ?_
    exact ⟨_, w1, ⟨rfl, hA, hf⟩, ev_iret dL_weightAgain_9 rfl rfl rfl rfl⟩
theorem le_border {A : AS} {x : Int32} {y : Int32} : ((qBo (aS A) x y, A)).1.1 ≤ 1 := by
  show (qBo (aS A) x y).1 ≤ 1
  unfold qBo
  (repeat' split) <;> exact Nat.le_of_ble_eq_true rfl
set_option maxRecDepth 4000 in
theorem hL_border {G : GX} {w : WS} {A : AS} (h : aX A w) (x : Int32) (y : Int32) : ∃ o w2, pL_ [(-11)] ((qBo (aS A) x y, A)) w o w2 ∧ Big G 20 1 mL_border [.ref 0, .int x, .int y] w o w2 := by
  obtain ⟨o, w1, ⟨ho, hA, hf⟩, hB⟩ := fX11_border (G := G) h x y
  have hle : ((qBo (aS A) x y, A)).1.1 ≤ 1 := le_border
  generalize (qBo (aS A) x y, A) = r at ho hA hle ⊢
  obtain ⟨⟨k, v⟩, A2⟩ := r
  have hle : k ≤ 1 := hle
  rcases Nat.eq_zero_or_pos k with rfl | hk
  · have hB := big_o (show o = .inl (some (.int v)) from ho) hB
    refine bx_of (P := pL_ [(-11)] ((0, v), A2) w) (by decide +kernel) (Nat.le_of_ble_eq_true rfl) ?_
    show Ex G 20 1 mL_border 0 [some (.ref 0), some (.int x), some (.int y), none] [] w _
    refine ex_s (fun _ => ev_aload_n dL_border_0 rfl) ?_
    refine ex_s (fun _ => ev_iload_n dL_border_1 rfl) ?_
    refine ex_s (fun _ => ev_iload_n dL_border_2 rfl) ?_
    refine ex_s2 (fun _ => ev_callV kL_64 co0 hB dL_border_3 rfl (by decide) (by decide) rfl) ?_
    exact ⟨_, w1, ⟨rfl, hA, hf⟩, ev_iret dL_border_6 rfl rfl rfl rfl⟩
  · have hk1 : 1 ≤ k := hk
    obtain rfl : k = 1 := by omega
    skip
    have hB := big_o (show o = .inr "java/lang/IndexOutOfBoundsException" from ho) hB
    refine bx_of (P := pL_ [(-11)] ((1, v), A2) w) (by decide +kernel) (Nat.le_of_ble_eq_true rfl) ?_
    show Ex G 20 1 mL_border 0 [some (.ref 0), some (.int x), some (.int y), none] [] w _
    refine ex_s (fun _ => ev_aload_n dL_border_0 rfl) ?_
    refine ex_s (fun _ => ev_iload_n dL_border_1 rfl) ?_
    refine ex_s (fun _ => ev_iload_n dL_border_2 rfl) ?_
    refine ex_s2 (fun Z => @ev_callVc G 20 1 _ 1 mL_border mX11_border 3 64 2 0 3 [some (.ref 0), some (.int x), some (.int y), none] [.int x, .int y] [] w w1 "java/lang/IndexOutOfBoundsException" Z kL_64 co0 hB dL_border_3 rfl (by decide) (by decide) rfl [] [] (0, 6, 7, 14) rfl hp_nil (by decide) (by decide) (by decide) xc_14 xt_IndexOutOf 1 (Or.inl ⟨3, rfl, dL_border_7, rfl⟩) (by decide) rfl) ?_
    refine ex_s (fun _ => ev_bipush (v := -11) dL_border_8 (by decide)) ?_
    exact ⟨_, w1, ⟨rfl, hA, hf⟩, ev_iret dL_border_10 rfl rfl rfl rfl⟩
theorem le_around {A : AS} {x : Int32} : ((qAr (aS A) x, A)).1.1 ≤ 1 := by
  show (qAr (aS A) x).1 ≤ 1
  unfold qAr
  (repeat' split) <;> exact Nat.le_of_ble_eq_true rfl
set_option maxRecDepth 4000 in
theorem hL_around {G : GX} {w : WS} {A : AS} (h : aX A w) (x : Int32) : ∃ o w2, pL_ [(-11)] ((qAr (aS A) x, A)) w o w2 ∧ Big G 20 1 mL_around [.ref 0, .int x] w o w2 := by
  obtain ⟨o, w1, ⟨ho, hA, hf⟩, hB⟩ := fX11_around (G := G) h x
  have hle : ((qAr (aS A) x, A)).1.1 ≤ 1 := le_around
  generalize (qAr (aS A) x, A) = r at ho hA hle ⊢
  obtain ⟨⟨k, v⟩, A2⟩ := r
  have hle : k ≤ 1 := hle
  rcases Nat.eq_zero_or_pos k with rfl | hk
  · have hB := big_o (show o = .inl (some (.int v)) from ho) hB
    refine bx_of (P := pL_ [(-11)] ((0, v), A2) w) (by decide +kernel) (Nat.le_of_ble_eq_true rfl) ?_
    show Ex G 20 1 mL_around 0 [some (.ref 0), some (.int x), none] [] w _
    refine ex_s (fun _ => ev_aload_n dL_around_0 rfl) ?_
    refine ex_s (fun _ => ev_iload_n dL_around_1 rfl) ?_
    refine ex_s2 (fun _ => ev_callV kL_67 co0 hB dL_around_2 rfl (by decide) (by decide) rfl) ?_
    exact ⟨_, w1, ⟨rfl, hA, hf⟩, ev_iret dL_around_5 rfl rfl rfl rfl⟩
  · have hk1 : 1 ≤ k := hk
    obtain rfl : k = 1 := by omega
    skip
    have hB := big_o (show o = .inr "java/lang/IndexOutOfBoundsException" from ho) hB
    refine bx_of (P := pL_ [(-11)] ((1, v), A2) w) (by decide +kernel) (Nat.le_of_ble_eq_true rfl) ?_
    show Ex G 20 1 mL_around 0 [some (.ref 0), some (.int x), none] [] w _
    refine ex_s (fun _ => ev_aload_n dL_around_0 rfl) ?_
    refine ex_s (fun _ => ev_iload_n dL_around_1 rfl) ?_
    refine ex_s2 (fun Z => @ev_callVc G 20 1 _ 1 mL_around mX11_around 2 67 1 0 2 [some (.ref 0), some (.int x), none] [.int x] [] w w1 "java/lang/IndexOutOfBoundsException" Z kL_67 co0 hB dL_around_2 rfl (by decide) (by decide) rfl [] [] (0, 5, 6, 14) rfl hp_nil (by decide) (by decide) (by decide) xc_14 xt_IndexOutOf 1 (Or.inl ⟨2, rfl, dL_around_6, rfl⟩) (by decide) rfl) ?_
    refine ex_s (fun _ => ev_bipush (v := -11) dL_around_7 (by decide)) ?_
    exact ⟨_, w1, ⟨rfl, hA, hf⟩, ev_iret dL_around_9 rfl rfl rfl rfl⟩
theorem le_aroundAgain {A : AS} {x : Int32} : ((qAr (aS A) x, A)).1.1 ≤ 1 := by
  show (qAr (aS A) x).1 ≤ 1
  unfold qAr
  (repeat' split) <;> exact Nat.le_of_ble_eq_true rfl
set_option maxRecDepth 4000 in
theorem hL_aroundAgain {G : GX} {w : WS} {A : AS} (h : aX A w) (x : Int32) : ∃ o w2, pL_ [(-11)] ((qAr (aS A) x, A)) w o w2 ∧ Big G 20 1 mL_aroundAgain [.ref 0, .int x] w o w2 := by
  obtain ⟨o, w1, ⟨ho, hA, hf⟩, hB⟩ := fX11_aroundAgain (G := G) h x
  have hle : ((qAr (aS A) x, A)).1.1 ≤ 1 := le_aroundAgain
  generalize (qAr (aS A) x, A) = r at ho hA hle ⊢
  obtain ⟨⟨k, v⟩, A2⟩ := r
  have hle : k ≤ 1 := hle
  rcases Nat.eq_zero_or_pos k with rfl | hk
  · have hB := big_o (show o = .inl (some (.int v)) from ho) hB
    refine bx_of (P := pL_ [(-11)] ((0, v), A2) w) (by decide +kernel) (Nat.le_of_ble_eq_true rfl) ?_
    show Ex G 20 1 mL_aroundAgain 0 [some (.ref 0), some (.int x), none] [] w _
    refine ex_s (fun _ => ev_aload_n dL_aroundAgain_0 rfl) ?_
    refine ex_s (fun _ => ev_iload_n dL_aroundAgain_1 rfl) ?_
    refine ex_s2 (fun _ => ev_callV kL_70 co0 hB dL_aroundAgain_2 rfl (by decide) (by decide) rfl) ?_
    exact ⟨_, w1, ⟨rfl, hA, hf⟩, ev_iret dL_aroundAgain_5 rfl rfl rfl rfl⟩
  · have hk1 : 1 ≤ k := hk
    obtain rfl : k = 1 := by omega
    skip
    have hB := big_o (show o = .inr "java/lang/IndexOutOfBoundsException" from ho) hB
    refine bx_of (P := pL_ [(-11)] ((1, v), A2) w) (by decide +kernel) (Nat.le_of_ble_eq_true rfl) ?_
    show Ex G 20 1 mL_aroundAgain 0 [some (.ref 0), some (.int x), none] [] w _
    refine ex_s (fun _ => ev_aload_n dL_aroundAgain_0 rfl) ?_
    refine ex_s (fun _ => ev_iload_n dL_aroundAgain_1 rfl) ?_
    refine ex_s2 (fun Z => @ev_callVc G 20 1 _ 1 mL_aroundAgain mX11_aroundAgain 2 70 1 0 2 [some (.ref 0), some (.int x), none] [.int x] [] w w1 "java/lang/IndexOutOfBoundsException" Z kL_70 co0 hB dL_aroundAgain_2 rfl (by decide) (by decide) rfl [] [] (0, 5, 6, 14) rfl hp_nil (by decide) (by decide) (by decide) xc_14 xt_IndexOutOf 1 (Or.inl ⟨2, rfl, dL_aroundAgain_6, rfl⟩) (by decide) rfl) ?_
    refine ex_s (fun _ => ev_bipush (v := -11) dL_aroundAgain_7 (by decide)) ?_
    exact ⟨_, w1, ⟨rfl, hA, hf⟩, ev_iret dL_aroundAgain_9 rfl rfl rfl rfl⟩
theorem le_parts {A : AS} {x : Int32} : ((qPa (aS A) x, A)).1.1 ≤ 1 := by
  show (qPa (aS A) x).1 ≤ 1
  unfold qPa
  (repeat' split) <;> exact Nat.le_of_ble_eq_true rfl
set_option maxRecDepth 4000 in
theorem hL_parts {G : GX} {w : WS} {A : AS} (h : aX A w) (x : Int32) : ∃ o w2, pL_ [(-11)] ((qPa (aS A) x, A)) w o w2 ∧ Big G 20 1 mL_parts [.ref 0, .int x] w o w2 := by
  obtain ⟨o, w1, ⟨ho, hA, hf⟩, hB⟩ := fX11_parts (G := G) h x
  have hle : ((qPa (aS A) x, A)).1.1 ≤ 1 := le_parts
  generalize (qPa (aS A) x, A) = r at ho hA hle ⊢
  obtain ⟨⟨k, v⟩, A2⟩ := r
  have hle : k ≤ 1 := hle
  rcases Nat.eq_zero_or_pos k with rfl | hk
  · have hB := big_o (show o = .inl (some (.int v)) from ho) hB
    refine bx_of (P := pL_ [(-11)] ((0, v), A2) w) (by decide +kernel) (Nat.le_of_ble_eq_true rfl) ?_
    show Ex G 20 1 mL_parts 0 [some (.ref 0), some (.int x), none] [] w _
    refine ex_s (fun _ => ev_aload_n dL_parts_0 rfl) ?_
    refine ex_s (fun _ => ev_iload_n dL_parts_1 rfl) ?_
    refine ex_s2 (fun _ => ev_callV kL_73 co0 hB dL_parts_2 rfl (by decide) (by decide) rfl) ?_
    exact ⟨_, w1, ⟨rfl, hA, hf⟩, ev_iret dL_parts_5 rfl rfl rfl rfl⟩
  · have hk1 : 1 ≤ k := hk
    obtain rfl : k = 1 := by omega
    skip
    have hB := big_o (show o = .inr "java/lang/IndexOutOfBoundsException" from ho) hB
    refine bx_of (P := pL_ [(-11)] ((1, v), A2) w) (by decide +kernel) (Nat.le_of_ble_eq_true rfl) ?_
    show Ex G 20 1 mL_parts 0 [some (.ref 0), some (.int x), none] [] w _
    refine ex_s (fun _ => ev_aload_n dL_parts_0 rfl) ?_
    refine ex_s (fun _ => ev_iload_n dL_parts_1 rfl) ?_
    refine ex_s2 (fun Z => @ev_callVc G 20 1 _ 1 mL_parts mX11_parts 2 73 1 0 2 [some (.ref 0), some (.int x), none] [.int x] [] w w1 "java/lang/IndexOutOfBoundsException" Z kL_73 co0 hB dL_parts_2 rfl (by decide) (by decide) rfl [] [] (0, 5, 6, 14) rfl hp_nil (by decide) (by decide) (by decide) xc_14 xt_IndexOutOf 1 (Or.inl ⟨2, rfl, dL_parts_6, rfl⟩) (by decide) rfl) ?_
    refine ex_s (fun _ => ev_bipush (v := -11) dL_parts_7 (by decide)) ?_
    exact ⟨_, w1, ⟨rfl, hA, hf⟩, ev_iret dL_parts_9 rfl rfl rfl rfl⟩
theorem le_partsAgain {A : AS} {x : Int32} : ((qPa (aS A) x, A)).1.1 ≤ 1 := by
  show (qPa (aS A) x).1 ≤ 1
  unfold qPa
  (repeat' split) <;> exact Nat.le_of_ble_eq_true rfl
set_option maxRecDepth 4000 in
theorem hL_partsAgain {G : GX} {w : WS} {A : AS} (h : aX A w) (x : Int32) : ∃ o w2, pL_ [(-11)] ((qPa (aS A) x, A)) w o w2 ∧ Big G 20 1 mL_partsAgain [.ref 0, .int x] w o w2 := by
  obtain ⟨o, w1, ⟨ho, hA, hf⟩, hB⟩ := fX11_partsAgain (G := G) h x
  have hle : ((qPa (aS A) x, A)).1.1 ≤ 1 := le_partsAgain
  generalize (qPa (aS A) x, A) = r at ho hA hle ⊢
  obtain ⟨⟨k, v⟩, A2⟩ := r
  have hle : k ≤ 1 := hle
  rcases Nat.eq_zero_or_pos k with rfl | hk
  · have hB := big_o (show o = .inl (some (.int v)) from ho) hB
    refine bx_of (P := pL_ [(-11)] ((0, v), A2) w) (by decide +kernel) (Nat.le_of_ble_eq_true rfl) ?_
    show Ex G 20 1 mL_partsAgain 0 [some (.ref 0), some (.int x), none] [] w _
    refine ex_s (fun _ => ev_aload_n dL_partsAgain_0 rfl) ?_
    refine ex_s (fun _ => ev_iload_n dL_partsAgain_1 rfl) ?_
    refine ex_s2 (fun _ => ev_callV kL_76 co0 hB dL_partsAgain_2 rfl (by decide) (by decide) rfl) ?_
    exact ⟨_, w1, ⟨rfl, hA, hf⟩, ev_iret dL_partsAgain_5 rfl rfl rfl rfl⟩
  · have hk1 : 1 ≤ k := hk
    obtain rfl : k = 1 := by omega
    skip
    have hB := big_o (show o = .inr "java/lang/IndexOutOfBoundsException" from ho) hB
    refine bx_of (P := pL_ [(-11)] ((1, v), A2) w) (by decide +kernel) (Nat.le_of_ble_eq_true rfl) ?_
    show Ex G 20 1 mL_partsAgain 0 [some (.ref 0), some (.int x), none] [] w _
    refine ex_s (fun _ => ev_aload_n dL_partsAgain_0 rfl) ?_
    refine ex_s (fun _ => ev_iload_n dL_partsAgain_1 rfl) ?_
    refine ex_s2 (fun Z => @ev_callVc G 20 1 _ 1 mL_partsAgain mX11_partsAgain 2 76 1 0 2 [some (.ref 0), some (.int x), none] [.int x] [] w w1 "java/lang/IndexOutOfBoundsException" Z kL_76 co0 hB dL_partsAgain_2 rfl (by decide) (by decide) rfl [] [] (0, 5, 6, 14) rfl hp_nil (by decide) (by decide) (by decide) xc_14 xt_IndexOutOf 1 (Or.inl ⟨2, rfl, dL_partsAgain_6, rfl⟩) (by decide) rfl) ?_
    refine ex_s (fun _ => ev_bipush (v := -11) dL_partsAgain_7 (by decide)) ?_
    exact ⟨_, w1, ⟨rfl, hA, hf⟩, ev_iret dL_partsAgain_9 rfl rfl rfl rfl⟩
theorem le_couldShave {A : AS} {x : Int32} {y : Int32} : ((qCs (aS A) x y, A)).1.1 ≤ 1 := by
  show (qCs (aS A) x y).1 ≤ 1
  unfold qCs
  (repeat' split) <;> exact Nat.le_of_ble_eq_true rfl
set_option maxRecDepth 4000 in
theorem hL_couldShave {G : GX} {w : WS} {A : AS} (h : aX A w) (x : Int32) (y : Int32) : ∃ o w2, pL_ [(-11)] ((qCs (aS A) x y, A)) w o w2 ∧ Big G 20 1 mL_couldShave [.ref 0, .int x, .int y] w o w2 := by
  obtain ⟨o, w1, ⟨ho, hA, hf⟩, hB⟩ := fX11_couldShave (G := G) h x y
  have hle : ((qCs (aS A) x y, A)).1.1 ≤ 1 := le_couldShave
  have h01 : ((qCs (aS A) x y, A) : (Nat × Int32) × AS).1.2 ≠ 0 → ((qCs (aS A) x y, A) : (Nat × Int32) × AS).1.2 = nI 1 := by
    show (qCs (aS A) x y).2 ≠ 0 → (qCs (aS A) x y).2 = nI 1
    unfold qCs
    repeat' split
    all_goals first | exact fun q => absurd rfl q | exact fun q => cs01 q
  generalize (qCs (aS A) x y, A) = r at ho hA hle h01 ⊢
  obtain ⟨⟨k, v⟩, A2⟩ := r
  have hle : k ≤ 1 := hle
  rcases Nat.eq_zero_or_pos k with rfl | hk
  · have hB := big_o (show o = .inl (some (.int v)) from ho) hB
    refine bx_of (P := pL_ [(-11)] ((0, v), A2) w) (by decide +kernel) (Nat.le_of_ble_eq_true rfl) ?_
    show Ex G 20 1 mL_couldShave 0 [some (.ref 0), some (.int x), some (.int y), none] [] w _
    refine ex_s (fun _ => ev_aload_n dL_couldShave_0 rfl) ?_
    refine ex_s (fun _ => ev_iload_n dL_couldShave_1 rfl) ?_
    refine ex_s (fun _ => ev_iload_n dL_couldShave_2 rfl) ?_
    refine ex_s2 (fun _ => ev_callV kL_79 co0 hB dL_couldShave_3 rfl (by decide) (by decide) rfl) ?_
    refine ex_bp (fun _ => ev_if_eq (tgt := 13) dL_couldShave_6 (by decide)) (fun hc8 => ?_) (fun hc8 => ?_)
    · refine ex_s (fun _ => ev_iconst dL_couldShave_13 ic0) ?_
      exact ⟨_, w1, ⟨(by rw [show v = nI 0 from hc8]; rfl), hA, hf⟩, ev_iret dL_couldShave_14 rfl rfl rfl rfl⟩
    · refine ex_s (fun _ => ev_iconst dL_couldShave_9 ic1) ?_
      refine ex_s (fun _ => ev_goto (tgt := 14) dL_couldShave_10 (by decide)) ?_
      exact ⟨_, w1, ⟨(by rw [show v = nI 1 from h01 hc8]; rfl), hA, hf⟩, ev_iret dL_couldShave_14 rfl rfl rfl rfl⟩
  · have hk1 : 1 ≤ k := hk
    obtain rfl : k = 1 := by omega
    skip
    have hB := big_o (show o = .inr "java/lang/IndexOutOfBoundsException" from ho) hB
    refine bx_of (P := pL_ [(-11)] ((1, v), A2) w) (by decide +kernel) (Nat.le_of_ble_eq_true rfl) ?_
    show Ex G 20 1 mL_couldShave 0 [some (.ref 0), some (.int x), some (.int y), none] [] w _
    refine ex_s (fun _ => ev_aload_n dL_couldShave_0 rfl) ?_
    refine ex_s (fun _ => ev_iload_n dL_couldShave_1 rfl) ?_
    refine ex_s (fun _ => ev_iload_n dL_couldShave_2 rfl) ?_
    refine ex_s2 (fun Z => @ev_callVc G 20 1 _ 1 mL_couldShave mX11_couldShave 3 79 2 0 3 [some (.ref 0), some (.int x), some (.int y), none] [.int x, .int y] [] w w1 "java/lang/IndexOutOfBoundsException" Z kL_79 co0 hB dL_couldShave_3 rfl (by decide) (by decide) rfl [] [] (0, 14, 15, 14) rfl hp_nil (by decide) (by decide) (by decide) xc_14 xt_IndexOutOf 1 (Or.inl ⟨3, rfl, dL_couldShave_15, rfl⟩) (by decide) rfl) ?_
    refine ex_s (fun _ => ev_bipush (v := -11) dL_couldShave_16 (by decide)) ?_
    exact ⟨_, w1, ⟨rfl, hA, hf⟩, ev_iret dL_couldShave_18 rfl rfl rfl rfl⟩
theorem le_shavable {A : AS} {x : Int32} : ((qSh (aS A) x, A)).1.1 ≤ 1 := by
  show (qSh (aS A) x).1 ≤ 1
  unfold qSh
  (repeat' split) <;> exact Nat.le_of_ble_eq_true rfl
set_option maxRecDepth 4000 in
theorem hL_shavable {G : GX} {w : WS} {A : AS} (h : aX A w) (x : Int32) : ∃ o w2, pL_ [(-11)] ((qSh (aS A) x, A)) w o w2 ∧ Big G 20 1 mL_shavable [.ref 0, .int x] w o w2 := by
  obtain ⟨o, w1, ⟨ho, hA, hf⟩, hB⟩ := fX11_shavable (G := G) h x
  have hle : ((qSh (aS A) x, A)).1.1 ≤ 1 := le_shavable
  generalize (qSh (aS A) x, A) = r at ho hA hle ⊢
  obtain ⟨⟨k, v⟩, A2⟩ := r
  have hle : k ≤ 1 := hle
  rcases Nat.eq_zero_or_pos k with rfl | hk
  · have hB := big_o (show o = .inl (some (.int v)) from ho) hB
    refine bx_of (P := pL_ [(-11)] ((0, v), A2) w) (by decide +kernel) (Nat.le_of_ble_eq_true rfl) ?_
    show Ex G 20 1 mL_shavable 0 [some (.ref 0), some (.int x), none] [] w _
    refine ex_s (fun _ => ev_aload_n dL_shavable_0 rfl) ?_
    refine ex_s (fun _ => ev_iload_n dL_shavable_1 rfl) ?_
    refine ex_s2 (fun _ => ev_callV kL_83 co0 hB dL_shavable_2 rfl (by decide) (by decide) rfl) ?_
    exact ⟨_, w1, ⟨rfl, hA, hf⟩, ev_iret dL_shavable_5 rfl rfl rfl rfl⟩
  · have hk1 : 1 ≤ k := hk
    obtain rfl : k = 1 := by omega
    skip
    have hB := big_o (show o = .inr "java/lang/IndexOutOfBoundsException" from ho) hB
    refine bx_of (P := pL_ [(-11)] ((1, v), A2) w) (by decide +kernel) (Nat.le_of_ble_eq_true rfl) ?_
    show Ex G 20 1 mL_shavable 0 [some (.ref 0), some (.int x), none] [] w _
    refine ex_s (fun _ => ev_aload_n dL_shavable_0 rfl) ?_
    refine ex_s (fun _ => ev_iload_n dL_shavable_1 rfl) ?_
    refine ex_s2 (fun Z => @ev_callVc G 20 1 _ 1 mL_shavable mX11_shavable 2 83 1 0 2 [some (.ref 0), some (.int x), none] [.int x] [] w w1 "java/lang/IndexOutOfBoundsException" Z kL_83 co0 hB dL_shavable_2 rfl (by decide) (by decide) rfl [] [] (0, 5, 6, 14) rfl hp_nil (by decide) (by decide) (by decide) xc_14 xt_IndexOutOf 1 (Or.inl ⟨2, rfl, dL_shavable_6, rfl⟩) (by decide) rfl) ?_
    refine ex_s (fun _ => ev_bipush (v := -11) dL_shavable_7 (by decide)) ?_
    exact ⟨_, w1, ⟨rfl, hA, hf⟩, ev_iret dL_shavable_9 rfl rfl rfl rfl⟩
theorem le_lies {A : AS} {b : Bool} {x : Int32} : ((qLi (aS A) b x, A)).1.1 ≤ 1 := by
  show (qLi (aS A) b x).1 ≤ 1
  unfold qLi
  (repeat' split) <;> exact Nat.le_of_ble_eq_true rfl
set_option maxRecDepth 4000 in
theorem hL_lies {G : GX} {w : WS} {A : AS} (h : aX A w) (b : Bool) (x : Int32) : ∃ o w2, pL_ [(-12)] ((qLi (aS A) b x, A)) w o w2 ∧ Big G 20 1 mL_lies [.ref 0, .int (bI b), .int x] w o w2 := by
  obtain ⟨o, w1, ⟨ho, hA, hf⟩, hB⟩ := fX11_lies (G := G) h b x
  have hle : ((qLi (aS A) b x, A)).1.1 ≤ 1 := le_lies
  generalize (qLi (aS A) b x, A) = r at ho hA hle ⊢
  obtain ⟨⟨k, v⟩, A2⟩ := r
  have hle : k ≤ 1 := hle
  rcases Nat.eq_zero_or_pos k with rfl | hk
  · have hB := big_o (show o = .inl (some (.int v)) from ho) hB
    refine bx_of (P := pL_ [(-12)] ((0, v), A2) w) (by decide +kernel) (Nat.le_of_ble_eq_true rfl) ?_
    show Ex G 20 1 mL_lies 0 [some (.ref 0), some (.int (bI b)), some (.int x), none] [] w _
    refine ex_s (fun _ => ev_aload_n dL_lies_0 rfl) ?_
    refine ex_s (fun _ => ev_iload_n dL_lies_1 rfl) ?_
    refine ex_s (fun _ => ev_iload_n dL_lies_2 rfl) ?_
    refine ex_s2 (fun _ => ev_callV kL_86 co0 hB dL_lies_3 rfl (by decide) (by decide) rfl) ?_
    exact ⟨_, w1, ⟨rfl, hA, hf⟩, ev_iret dL_lies_6 rfl rfl rfl rfl⟩
  · have hk1 : 1 ≤ k := hk
    obtain rfl : k = 1 := by omega
    skip
    have hB := big_o (show o = .inr "java/lang/IllegalArgumentException" from ho) hB
    refine bx_of (P := pL_ [(-12)] ((1, v), A2) w) (by decide +kernel) (Nat.le_of_ble_eq_true rfl) ?_
    show Ex G 20 1 mL_lies 0 [some (.ref 0), some (.int (bI b)), some (.int x), none] [] w _
    refine ex_s (fun _ => ev_aload_n dL_lies_0 rfl) ?_
    refine ex_s (fun _ => ev_iload_n dL_lies_1 rfl) ?_
    refine ex_s (fun _ => ev_iload_n dL_lies_2 rfl) ?_
    refine ex_s2 (fun Z => @ev_callVc G 20 1 _ 1 mL_lies mX11_lies 3 86 2 0 3 [some (.ref 0), some (.int (bI b)), some (.int x), none] [.int (bI b), .int x] [] w w1 "java/lang/IllegalArgumentException" Z kL_86 co0 hB dL_lies_3 rfl (by decide) (by decide) rfl [] [] (0, 6, 7, 16) rfl hp_nil (by decide) (by decide) (by decide) xc_16 xt_IllegalArg 1 (Or.inl ⟨3, rfl, dL_lies_7, rfl⟩) (by decide) rfl) ?_
    refine ex_s (fun _ => ev_bipush (v := -12) dL_lies_8 (by decide)) ?_
    exact ⟨_, w1, ⟨rfl, hA, hf⟩, ev_iret dL_lies_10 rfl rfl rfl rfl⟩
theorem le_liesAgain {A : AS} {b : Bool} {x : Int32} : ((qLi (aS A) b x, A)).1.1 ≤ 1 := by
  show (qLi (aS A) b x).1 ≤ 1
  unfold qLi
  (repeat' split) <;> exact Nat.le_of_ble_eq_true rfl
set_option maxRecDepth 4000 in
theorem hL_liesAgain {G : GX} {w : WS} {A : AS} (h : aX A w) (b : Bool) (x : Int32) : ∃ o w2, pL_ [(-12)] ((qLi (aS A) b x, A)) w o w2 ∧ Big G 20 1 mL_liesAgain [.ref 0, .int (bI b), .int x] w o w2 := by
  obtain ⟨o, w1, ⟨ho, hA, hf⟩, hB⟩ := fX11_liesAgain (G := G) h b x
  have hle : ((qLi (aS A) b x, A)).1.1 ≤ 1 := le_liesAgain
  generalize (qLi (aS A) b x, A) = r at ho hA hle ⊢
  obtain ⟨⟨k, v⟩, A2⟩ := r
  have hle : k ≤ 1 := hle
  rcases Nat.eq_zero_or_pos k with rfl | hk
  · have hB := big_o (show o = .inl (some (.int v)) from ho) hB
    refine bx_of (P := pL_ [(-12)] ((0, v), A2) w) (by decide +kernel) (Nat.le_of_ble_eq_true rfl) ?_
    show Ex G 20 1 mL_liesAgain 0 [some (.ref 0), some (.int (bI b)), some (.int x), none] [] w _
    refine ex_s (fun _ => ev_aload_n dL_liesAgain_0 rfl) ?_
    refine ex_s (fun _ => ev_iload_n dL_liesAgain_1 rfl) ?_
    refine ex_s (fun _ => ev_iload_n dL_liesAgain_2 rfl) ?_
    refine ex_s2 (fun _ => ev_callV kL_90 co0 hB dL_liesAgain_3 rfl (by decide) (by decide) rfl) ?_
    exact ⟨_, w1, ⟨rfl, hA, hf⟩, ev_iret dL_liesAgain_6 rfl rfl rfl rfl⟩
  · have hk1 : 1 ≤ k := hk
    obtain rfl : k = 1 := by omega
    skip
    have hB := big_o (show o = .inr "java/lang/IllegalArgumentException" from ho) hB
    refine bx_of (P := pL_ [(-12)] ((1, v), A2) w) (by decide +kernel) (Nat.le_of_ble_eq_true rfl) ?_
    show Ex G 20 1 mL_liesAgain 0 [some (.ref 0), some (.int (bI b)), some (.int x), none] [] w _
    refine ex_s (fun _ => ev_aload_n dL_liesAgain_0 rfl) ?_
    refine ex_s (fun _ => ev_iload_n dL_liesAgain_1 rfl) ?_
    refine ex_s (fun _ => ev_iload_n dL_liesAgain_2 rfl) ?_
    refine ex_s2 (fun Z => @ev_callVc G 20 1 _ 1 mL_liesAgain mX11_liesAgain 3 90 2 0 3 [some (.ref 0), some (.int (bI b)), some (.int x), none] [.int (bI b), .int x] [] w w1 "java/lang/IllegalArgumentException" Z kL_90 co0 hB dL_liesAgain_3 rfl (by decide) (by decide) rfl [] [] (0, 6, 7, 16) rfl hp_nil (by decide) (by decide) (by decide) xc_16 xt_IllegalArg 1 (Or.inl ⟨3, rfl, dL_liesAgain_7, rfl⟩) (by decide) rfl) ?_
    refine ex_s (fun _ => ev_bipush (v := -12) dL_liesAgain_8 (by decide)) ?_
    exact ⟨_, w1, ⟨rfl, hA, hf⟩, ev_iret dL_liesAgain_10 rfl rfl rfl rfl⟩
theorem le_bestScale {A : AS} : ((qBs (aS A), A)).1.1 ≤ 1 := by
  show (qBs (aS A)).1 ≤ 1
  unfold qBs
  (repeat' split) <;> exact Nat.le_of_ble_eq_true rfl
set_option maxRecDepth 4000 in
theorem hL_bestScale {G : GX} {w : WS} {A : AS} (h : aX A w) : ∃ o w2, pL_ [(-15)] ((qBs (aS A), A)) w o w2 ∧ Big G 20 1 mL_bestScale [.ref 0] w o w2 := by
  obtain ⟨o, w1, ⟨ho, hA, hf⟩, hB⟩ := fX11_bestScale (G := G) h
  have hle : ((qBs (aS A), A)).1.1 ≤ 1 := le_bestScale
  generalize (qBs (aS A), A) = r at ho hA hle ⊢
  obtain ⟨⟨k, v⟩, A2⟩ := r
  have hle : k ≤ 1 := hle
  rcases Nat.eq_zero_or_pos k with rfl | hk
  · have hB := big_o (show o = .inl (some (.int v)) from ho) hB
    refine bx_of (P := pL_ [(-15)] ((0, v), A2) w) (by decide +kernel) (Nat.le_of_ble_eq_true rfl) ?_
    show Ex G 20 1 mL_bestScale 0 [some (.ref 0), none] [] w _
    refine ex_s (fun _ => ev_aload_n dL_bestScale_0 rfl) ?_
    refine ex_s2 (fun _ => ev_callV kL_93 co0 hB dL_bestScale_1 rfl (by decide) (by decide) rfl) ?_
    exact ⟨_, w1, ⟨rfl, hA, hf⟩, ev_iret dL_bestScale_4 rfl rfl rfl rfl⟩
  · have hk1 : 1 ≤ k := hk
    obtain rfl : k = 1 := by omega
    skip
    have hB := big_o (show o = .inr "java/util/NoSuchElementException" from ho) hB
    refine bx_of (P := pL_ [(-15)] ((1, v), A2) w) (by decide +kernel) (Nat.le_of_ble_eq_true rfl) ?_
    show Ex G 20 1 mL_bestScale 0 [some (.ref 0), none] [] w _
    refine ex_s (fun _ => ev_aload_n dL_bestScale_0 rfl) ?_
    refine ex_s2 (fun Z => @ev_callVc G 20 1 _ 1 mL_bestScale mX11_bestScale 1 93 0 0 1 [some (.ref 0), none] [] [] w w1 "java/util/NoSuchElementException" Z kL_93 co0 hB dL_bestScale_1 rfl (by decide) (by decide) rfl [] [] (0, 4, 5, 53) rfl hp_nil (by decide) (by decide) (by decide) xc_53 xt_NoSuchElem 1 (Or.inl ⟨1, rfl, dL_bestScale_5, rfl⟩) (by decide) rfl) ?_
    refine ex_s (fun _ => ev_bipush (v := -15) dL_bestScale_6 (by decide)) ?_
    exact ⟨_, w1, ⟨rfl, hA, hf⟩, ev_iret dL_bestScale_8 rfl rfl rfl rfl⟩
theorem le_ranked {A : AS} {x : Int32} : ((qRk (aS A) x, A)).1.1 ≤ 1 := by
  show (qRk (aS A) x).1 ≤ 1
  unfold qRk
  (repeat' split) <;> exact Nat.le_of_ble_eq_true rfl
set_option maxRecDepth 4000 in
theorem hL_ranked {G : GX} {w : WS} {A : AS} (h : aX A w) (x : Int32) : ∃ o w2, pL_ [(-15)] ((qRk (aS A) x, A)) w o w2 ∧ Big G 20 1 mL_ranked [.ref 0, .int x] w o w2 := by
  obtain ⟨o, w1, ⟨ho, hA, hf⟩, hB⟩ := fX11_ranked (G := G) h x
  have hle : ((qRk (aS A) x, A)).1.1 ≤ 1 := le_ranked
  generalize (qRk (aS A) x, A) = r at ho hA hle ⊢
  obtain ⟨⟨k, v⟩, A2⟩ := r
  have hle : k ≤ 1 := hle
  rcases Nat.eq_zero_or_pos k with rfl | hk
  · have hB := big_o (show o = .inl (some (.int v)) from ho) hB
    refine bx_of (P := pL_ [(-15)] ((0, v), A2) w) (by decide +kernel) (Nat.le_of_ble_eq_true rfl) ?_
    show Ex G 20 1 mL_ranked 0 [some (.ref 0), some (.int x), none] [] w _
    refine ex_s (fun _ => ev_aload_n dL_ranked_0 rfl) ?_
    refine ex_s (fun _ => ev_iload_n dL_ranked_1 rfl) ?_
    refine ex_s2 (fun _ => ev_callV kL_97 co0 hB dL_ranked_2 rfl (by decide) (by decide) rfl) ?_
    exact ⟨_, w1, ⟨rfl, hA, hf⟩, ev_iret dL_ranked_5 rfl rfl rfl rfl⟩
  · have hk1 : 1 ≤ k := hk
    obtain rfl : k = 1 := by omega
    skip
    have hB := big_o (show o = .inr "java/util/NoSuchElementException" from ho) hB
    refine bx_of (P := pL_ [(-15)] ((1, v), A2) w) (by decide +kernel) (Nat.le_of_ble_eq_true rfl) ?_
    show Ex G 20 1 mL_ranked 0 [some (.ref 0), some (.int x), none] [] w _
    refine ex_s (fun _ => ev_aload_n dL_ranked_0 rfl) ?_
    refine ex_s (fun _ => ev_iload_n dL_ranked_1 rfl) ?_
    refine ex_s2 (fun Z => @ev_callVc G 20 1 _ 1 mL_ranked mX11_ranked 2 97 1 0 2 [some (.ref 0), some (.int x), none] [.int x] [] w w1 "java/util/NoSuchElementException" Z kL_97 co0 hB dL_ranked_2 rfl (by decide) (by decide) rfl [] [] (0, 5, 6, 53) rfl hp_nil (by decide) (by decide) (by decide) xc_53 xt_NoSuchElem 1 (Or.inl ⟨2, rfl, dL_ranked_6, rfl⟩) (by decide) rfl) ?_
    refine ex_s (fun _ => ev_bipush (v := -15) dL_ranked_7 (by decide)) ?_
    exact ⟨_, w1, ⟨rfl, hA, hf⟩, ev_iret dL_ranked_9 rfl rfl rfl rfl⟩
theorem le_heaviest {A : AS} {x : Int32} : ((qHv (aS A) x, A)).1.1 ≤ 1 := by
  show (qHv (aS A) x).1 ≤ 1
  unfold qHv
  (repeat' split) <;> exact Nat.le_of_ble_eq_true rfl
set_option maxRecDepth 4000 in
theorem hL_heaviest {G : GX} {w : WS} {A : AS} (h : aX A w) (x : Int32) : ∃ o w2, pL_ [(-15)] ((qHv (aS A) x, A)) w o w2 ∧ Big G 20 1 mL_heaviest [.ref 0, .int x] w o w2 := by
  obtain ⟨o, w1, ⟨ho, hA, hf⟩, hB⟩ := fX11_heaviest (G := G) h x
  have hle : ((qHv (aS A) x, A)).1.1 ≤ 1 := le_heaviest
  generalize (qHv (aS A) x, A) = r at ho hA hle ⊢
  obtain ⟨⟨k, v⟩, A2⟩ := r
  have hle : k ≤ 1 := hle
  rcases Nat.eq_zero_or_pos k with rfl | hk
  · have hB := big_o (show o = .inl (some (.int v)) from ho) hB
    refine bx_of (P := pL_ [(-15)] ((0, v), A2) w) (by decide +kernel) (Nat.le_of_ble_eq_true rfl) ?_
    show Ex G 20 1 mL_heaviest 0 [some (.ref 0), some (.int x), none] [] w _
    refine ex_s (fun _ => ev_aload_n dL_heaviest_0 rfl) ?_
    refine ex_s (fun _ => ev_iload_n dL_heaviest_1 rfl) ?_
    refine ex_s2 (fun _ => ev_callV kL_100 co0 hB dL_heaviest_2 rfl (by decide) (by decide) rfl) ?_
    exact ⟨_, w1, ⟨rfl, hA, hf⟩, ev_iret dL_heaviest_5 rfl rfl rfl rfl⟩
  · have hk1 : 1 ≤ k := hk
    obtain rfl : k = 1 := by omega
    skip
    have hB := big_o (show o = .inr "java/util/NoSuchElementException" from ho) hB
    refine bx_of (P := pL_ [(-15)] ((1, v), A2) w) (by decide +kernel) (Nat.le_of_ble_eq_true rfl) ?_
    show Ex G 20 1 mL_heaviest 0 [some (.ref 0), some (.int x), none] [] w _
    refine ex_s (fun _ => ev_aload_n dL_heaviest_0 rfl) ?_
    refine ex_s (fun _ => ev_iload_n dL_heaviest_1 rfl) ?_
    refine ex_s2 (fun Z => @ev_callVc G 20 1 _ 1 mL_heaviest mX11_heaviest 2 100 1 0 2 [some (.ref 0), some (.int x), none] [.int x] [] w w1 "java/util/NoSuchElementException" Z kL_100 co0 hB dL_heaviest_2 rfl (by decide) (by decide) rfl [] [] (0, 5, 6, 53) rfl hp_nil (by decide) (by decide) (by decide) xc_53 xt_NoSuchElem 1 (Or.inl ⟨2, rfl, dL_heaviest_6, rfl⟩) (by decide) rfl) ?_
    refine ex_s (fun _ => ev_bipush (v := -15) dL_heaviest_7 (by decide)) ?_
    exact ⟨_, w1, ⟨rfl, hA, hf⟩, ev_iret dL_heaviest_9 rfl rfl rfl rfl⟩
theorem le_row {A : AS} {x : Int32} : (spRow A x).1.1 ≤ 1 := by
  unfold spRow
  (repeat' split) <;> exact Nat.le_of_ble_eq_true rfl
set_option maxRecDepth 4000 in
theorem hL_row {G : GX} {w : WS} {A : AS} (h : aX A w) (x : Int32) : ∃ o w2, pL_ [(-11)] (spRow A x) w o w2 ∧ Big G 20 1 mL_row [.ref 0, .int x] w o w2 := by
  obtain ⟨o, w1, ⟨ho, hA, hf⟩, hB⟩ := fX11_row (G := G) h x
  have hle : (spRow A x).1.1 ≤ 1 := le_row
  generalize spRow A x = r at ho hA hle ⊢
  obtain ⟨⟨k, v⟩, A2⟩ := r
  have hle : k ≤ 1 := hle
  rcases Nat.eq_zero_or_pos k with rfl | hk
  · have hB := big_o (show o = .inl (some (.int v)) from ho) hB
    refine bx_of (P := pL_ [(-11)] ((0, v), A2) w) (by decide +kernel) (Nat.le_of_ble_eq_true rfl) ?_
    show Ex G 20 1 mL_row 0 [some (.ref 0), some (.int x), none] [] w _
    refine ex_s (fun _ => ev_aload_n dL_row_0 rfl) ?_
    refine ex_s (fun _ => ev_iload_n dL_row_1 rfl) ?_
    refine ex_s2 (fun _ => ev_callV kL_103 co0 hB dL_row_2 rfl (by decide) (by decide) rfl) ?_
    exact ⟨_, w1, ⟨rfl, hA, hf⟩, ev_iret dL_row_5 rfl rfl rfl rfl⟩
  · have hk1 : 1 ≤ k := hk
    obtain rfl : k = 1 := by omega
    skip
    have hB := big_o (show o = .inr "java/lang/IndexOutOfBoundsException" from ho) hB
    refine bx_of (P := pL_ [(-11)] ((1, v), A2) w) (by decide +kernel) (Nat.le_of_ble_eq_true rfl) ?_
    show Ex G 20 1 mL_row 0 [some (.ref 0), some (.int x), none] [] w _
    refine ex_s (fun _ => ev_aload_n dL_row_0 rfl) ?_
    refine ex_s (fun _ => ev_iload_n dL_row_1 rfl) ?_
    refine ex_s2 (fun Z => @ev_callVc G 20 1 _ 1 mL_row mX11_row 2 103 1 0 2 [some (.ref 0), some (.int x), none] [.int x] [] w w1 "java/lang/IndexOutOfBoundsException" Z kL_103 co0 hB dL_row_2 rfl (by decide) (by decide) rfl [] [] (0, 5, 6, 14) rfl hp_nil (by decide) (by decide) (by decide) xc_14 xt_IndexOutOf 1 (Or.inl ⟨2, rfl, dL_row_6, rfl⟩) (by decide) rfl) ?_
    refine ex_s (fun _ => ev_bipush (v := -11) dL_row_7 (by decide)) ?_
    exact ⟨_, w1, ⟨rfl, hA, hf⟩, ev_iret dL_row_9 rfl rfl rfl rfl⟩
theorem le_tell {A : AS} {x : Int32} : (spTell A x).1.1 ≤ 1 := by
  unfold spTell
  (repeat' split) <;> exact Nat.le_of_ble_eq_true rfl
set_option maxRecDepth 4000 in
theorem hL_tell {G : GX} {w : WS} {A : AS} (h : aX A w) (x : Int32) : ∃ o w2, pL_ [(-11)] (spTell A x) w o w2 ∧ Big G 20 1 mL_tell [.ref 0, .int x] w o w2 := by
  obtain ⟨o, w1, ⟨ho, hA, hf⟩, hB⟩ := fX11_tell (G := G) h x
  have hle : (spTell A x).1.1 ≤ 1 := le_tell
  generalize spTell A x = r at ho hA hle ⊢
  obtain ⟨⟨k, v⟩, A2⟩ := r
  have hle : k ≤ 1 := hle
  rcases Nat.eq_zero_or_pos k with rfl | hk
  · have hB := big_o (show o = .inl (some (.int v)) from ho) hB
    refine bx_of (P := pL_ [(-11)] ((0, v), A2) w) (by decide +kernel) (Nat.le_of_ble_eq_true rfl) ?_
    show Ex G 20 1 mL_tell 0 [some (.ref 0), some (.int x), none] [] w _
    refine ex_s (fun _ => ev_aload_n dL_tell_0 rfl) ?_
    refine ex_s (fun _ => ev_iload_n dL_tell_1 rfl) ?_
    refine ex_s2 (fun _ => ev_callV kL_106 co0 hB dL_tell_2 rfl (by decide) (by decide) rfl) ?_
    exact ⟨_, w1, ⟨rfl, hA, hf⟩, ev_iret dL_tell_5 rfl rfl rfl rfl⟩
  · have hk1 : 1 ≤ k := hk
    obtain rfl : k = 1 := by omega
    skip
    have hB := big_o (show o = .inr "java/lang/IndexOutOfBoundsException" from ho) hB
    refine bx_of (P := pL_ [(-11)] ((1, v), A2) w) (by decide +kernel) (Nat.le_of_ble_eq_true rfl) ?_
    show Ex G 20 1 mL_tell 0 [some (.ref 0), some (.int x), none] [] w _
    refine ex_s (fun _ => ev_aload_n dL_tell_0 rfl) ?_
    refine ex_s (fun _ => ev_iload_n dL_tell_1 rfl) ?_
    refine ex_s2 (fun Z => @ev_callVc G 20 1 _ 1 mL_tell mX11_tell 2 106 1 0 2 [some (.ref 0), some (.int x), none] [.int x] [] w w1 "java/lang/IndexOutOfBoundsException" Z kL_106 co0 hB dL_tell_2 rfl (by decide) (by decide) rfl [] [] (0, 5, 6, 14) rfl hp_nil (by decide) (by decide) (by decide) xc_14 xt_IndexOutOf 1 (Or.inl ⟨2, rfl, dL_tell_6, rfl⟩) (by decide) rfl) ?_
    refine ex_s (fun _ => ev_bipush (v := -11) dL_tell_7 (by decide)) ?_
    exact ⟨_, w1, ⟨rfl, hA, hf⟩, ev_iret dL_tell_9 rfl rfl rfl rfl⟩
theorem le_character {A : AS} {x : Int32} : (spChar A x).1.1 ≤ 1 := by
  unfold spChar
  (repeat' split) <;> exact Nat.le_of_ble_eq_true rfl
set_option maxRecDepth 4000 in
theorem hL_character {G : GX} {w : WS} {A : AS} (h : aX A w) (x : Int32) : ∃ o w2, pL_ [(-15)] (spChar A x) w o w2 ∧ Big G 20 1 mL_character [.ref 0, .int x] w o w2 := by
  obtain ⟨o, w1, ⟨ho, hA, hf⟩, hB⟩ := fX11_character (G := G) h x
  have hle : (spChar A x).1.1 ≤ 1 := le_character
  generalize spChar A x = r at ho hA hle ⊢
  obtain ⟨⟨k, v⟩, A2⟩ := r
  have hle : k ≤ 1 := hle
  rcases Nat.eq_zero_or_pos k with rfl | hk
  · have hB := big_o (show o = .inl (some (.int v)) from ho) hB
    refine bx_of (P := pL_ [(-15)] ((0, v), A2) w) (by decide +kernel) (Nat.le_of_ble_eq_true rfl) ?_
    show Ex G 20 1 mL_character 0 [some (.ref 0), some (.int x), none] [] w _
    refine ex_s (fun _ => ev_aload_n dL_character_0 rfl) ?_
    refine ex_s (fun _ => ev_iload_n dL_character_1 rfl) ?_
    refine ex_s2 (fun _ => ev_callV kL_109 co0 hB dL_character_2 rfl (by decide) (by decide) rfl) ?_
    exact ⟨_, w1, ⟨rfl, hA, hf⟩, ev_iret dL_character_5 rfl rfl rfl rfl⟩
  · have hk1 : 1 ≤ k := hk
    obtain rfl : k = 1 := by omega
    skip
    have hB := big_o (show o = .inr "java/util/NoSuchElementException" from ho) hB
    refine bx_of (P := pL_ [(-15)] ((1, v), A2) w) (by decide +kernel) (Nat.le_of_ble_eq_true rfl) ?_
    show Ex G 20 1 mL_character 0 [some (.ref 0), some (.int x), none] [] w _
    refine ex_s (fun _ => ev_aload_n dL_character_0 rfl) ?_
    refine ex_s (fun _ => ev_iload_n dL_character_1 rfl) ?_
    refine ex_s2 (fun Z => @ev_callVc G 20 1 _ 1 mL_character mX11_character 2 109 1 0 2 [some (.ref 0), some (.int x), none] [.int x] [] w w1 "java/util/NoSuchElementException" Z kL_109 co0 hB dL_character_2 rfl (by decide) (by decide) rfl [] [] (0, 5, 6, 53) rfl hp_nil (by decide) (by decide) (by decide) xc_53 xt_NoSuchElem 1 (Or.inl ⟨2, rfl, dL_character_6, rfl⟩) (by decide) rfl) ?_
    refine ex_s (fun _ => ev_bipush (v := -15) dL_character_7 (by decide)) ?_
    exact ⟨_, w1, ⟨rfl, hA, hf⟩, ev_iret dL_character_9 rfl rfl rfl rfl⟩
theorem le_append {A : AS} {c : Nat} : (spApp A c).1.1 ≤ 2 := by
  unfold spApp
  (repeat' split) <;> exact Nat.le_of_ble_eq_true rfl
set_option maxRecDepth 4000 in
theorem hL_append {G : GX} {w : WS} {A : AS} (h : aX A w) {c : Nat} (hc : c < 65536) : ∃ o w2, pL_ [(-12), (-13)] (spApp A c) w o w2 ∧ Big G 20 1 mL_append [.ref 0, .int (nI c)] w o w2 := by
  obtain ⟨o, w1, ⟨ho, hA, hf⟩, hB⟩ := fX11_append (G := G) h hc
  have hle : (spApp A c).1.1 ≤ 2 := le_append
  generalize spApp A c = r at ho hA hle ⊢
  obtain ⟨⟨k, v⟩, A2⟩ := r
  have hle : k ≤ 2 := hle
  rcases Nat.eq_zero_or_pos k with rfl | hk
  · have hB := big_o (show o = .inl (some (.int v)) from ho) hB
    refine bx_of (P := pL_ [(-12), (-13)] ((0, v), A2) w) (by decide +kernel) (Nat.le_of_ble_eq_true rfl) ?_
    show Ex G 20 1 mL_append 0 [some (.ref 0), some (.int (nI c)), none] [] w _
    refine ex_s (fun _ => ev_aload_n dL_append_0 rfl) ?_
    refine ex_s (fun _ => ev_iload_n dL_append_1 rfl) ?_
    refine ex_s2 (fun _ => ev_callV kL_113 co0 hB dL_append_2 rfl (by decide) (by decide) rfl) ?_
    exact ⟨_, w1, ⟨rfl, hA, hf⟩, ev_iret dL_append_5 rfl rfl rfl rfl⟩
  · have hk1 : 1 ≤ k := hk
    rcases (by omega : k = 1 ∨ k = 2) with rfl | rfl
    · have hB := big_o (show o = .inr "java/lang/IllegalArgumentException" from ho) hB
      refine bx_of (P := pL_ [(-12), (-13)] ((1, v), A2) w) (by decide +kernel) (Nat.le_of_ble_eq_true rfl) ?_
      show Ex G 20 1 mL_append 0 [some (.ref 0), some (.int (nI c)), none] [] w _
      refine ex_s (fun _ => ev_aload_n dL_append_0 rfl) ?_
      refine ex_s (fun _ => ev_iload_n dL_append_1 rfl) ?_
      refine ex_s2 (fun Z => @ev_callVc G 20 1 _ 1 mL_append mX11_append 2 113 1 0 2 [some (.ref 0), some (.int (nI c)), none] [.int (nI c)] [] w w1 "java/lang/IllegalArgumentException" Z kL_113 co0 hB dL_append_2 rfl (by decide) (by decide) rfl [] [(0, 5, 10, 30)] (0, 5, 6, 16) rfl hp_nil (by decide) (by decide) (by decide) xc_16 xt_IllegalArg 1 (Or.inl ⟨2, rfl, dL_append_6, rfl⟩) (by decide) rfl) ?_
      refine ex_s (fun _ => ev_bipush (v := -12) dL_append_7 (by decide)) ?_
      exact ⟨_, w1, ⟨rfl, hA, hf⟩, ev_iret dL_append_9 rfl rfl rfl rfl⟩
    · have hB := big_o (show o = .inr "java/lang/IllegalStateException" from ho) hB
      refine bx_of (P := pL_ [(-12), (-13)] ((2, v), A2) w) (by decide +kernel) (Nat.le_of_ble_eq_true rfl) ?_
      show Ex G 20 1 mL_append 0 [some (.ref 0), some (.int (nI c)), none] [] w _
      refine ex_s (fun _ => ev_aload_n dL_append_0 rfl) ?_
      refine ex_s (fun _ => ev_iload_n dL_append_1 rfl) ?_
      refine ex_s2 (fun Z => @ev_callVc G 20 1 _ 1 mL_append mX11_append 2 113 1 0 2 [some (.ref 0), some (.int (nI c)), none] [.int (nI c)] [] w w1 "java/lang/IllegalStateException" Z kL_113 co0 hB dL_append_2 rfl (by decide) (by decide) rfl [(0, 5, 6, 16)] [] (0, 5, 10, 30) rfl (hp_cons (by decide) xc_16 nc_IllegalSta_IllegalArg hp_nil) (by decide) (by decide) (by decide) xc_30 xt_IllegalSta 1 (Or.inl ⟨2, rfl, dL_append_10, rfl⟩) (by decide) rfl) ?_
      refine ex_s (fun _ => ev_bipush (v := -13) dL_append_11 (by decide)) ?_
      exact ⟨_, w1, ⟨rfl, hA, hf⟩, ev_iret dL_append_13 rfl rfl rfl rfl⟩
theorem le_reads {A : AS} : (spRead A).1.1 ≤ 3 := by
  unfold spRead
  (repeat' split) <;> exact Nat.le_of_ble_eq_true rfl
set_option maxRecDepth 4000 in
theorem hL_reads {G : GX} {w : WS} {A : AS} (h : aX A w) : ∃ o w2, pL_ [(-1), (-2), (-3)] (spRead A) w o w2 ∧ Big G 20 1 mL_reads [.ref 0] w o w2 := by
  obtain ⟨o, w1, ⟨ho, hA, hf⟩, hB⟩ := fX11_read (G := G) h
  have hle : (spRead A).1.1 ≤ 3 := le_reads
  generalize spRead A = r at ho hA hle ⊢
  obtain ⟨⟨k, v⟩, A2⟩ := r
  have hle : k ≤ 3 := hle
  rcases Nat.eq_zero_or_pos k with rfl | hk
  · have hB := big_o (show o = .inl (some (.int v)) from ho) hB
    refine bx_of (P := pL_ [(-1), (-2), (-3)] ((0, v), A2) w) (by decide +kernel) (Nat.le_of_ble_eq_true rfl) ?_
    show Ex G 20 1 mL_reads 0 [some (.ref 0), none] [] w _
    refine ex_s (fun _ => ev_aload_n dL_reads_0 rfl) ?_
    refine ex_s2 (fun _ => ev_callV kL_117 co0 hB dL_reads_1 rfl (by decide) (by decide) rfl) ?_
    exact ⟨_, w1, ⟨rfl, hA, hf⟩, ev_iret dL_reads_4 rfl rfl rfl rfl⟩
  · have hk1 : 1 ≤ k := hk
    rcases (by omega : k = 1 ∨ k = 2 ∨ k = 3) with rfl | rfl | rfl
    · have hB := big_o (show o = .inr "java/lang/IllegalArgumentException" from ho) hB
      refine bx_of (P := pL_ [(-1), (-2), (-3)] ((1, v), A2) w) (by decide +kernel) (Nat.le_of_ble_eq_true rfl) ?_
      show Ex G 20 1 mL_reads 0 [some (.ref 0), none] [] w _
      refine ex_s (fun _ => ev_aload_n dL_reads_0 rfl) ?_
      refine ex_s2 (fun Z => @ev_callVc G 20 1 _ 1 mL_reads mX11_read 1 117 0 0 1 [some (.ref 0), none] [] [] w w1 "java/lang/IllegalArgumentException" Z kL_117 co0 hB dL_reads_1 rfl (by decide) (by decide) rfl [] [(0, 4, 8, 30), (0, 4, 12, 18)] (0, 4, 5, 16) rfl hp_nil (by decide) (by decide) (by decide) xc_16 xt_IllegalArg 1 (Or.inl ⟨1, rfl, dL_reads_5, rfl⟩) (by decide) rfl) ?_
      refine ex_s (fun _ => ev_iconst (v := -1) dL_reads_6 (by decide)) ?_
      exact ⟨_, w1, ⟨rfl, hA, hf⟩, ev_iret dL_reads_7 rfl rfl rfl rfl⟩
    · have hB := big_o (show o = .inr "java/lang/IllegalStateException" from ho) hB
      refine bx_of (P := pL_ [(-1), (-2), (-3)] ((2, v), A2) w) (by decide +kernel) (Nat.le_of_ble_eq_true rfl) ?_
      show Ex G 20 1 mL_reads 0 [some (.ref 0), none] [] w _
      refine ex_s (fun _ => ev_aload_n dL_reads_0 rfl) ?_
      refine ex_s2 (fun Z => @ev_callVc G 20 1 _ 1 mL_reads mX11_read 1 117 0 0 1 [some (.ref 0), none] [] [] w w1 "java/lang/IllegalStateException" Z kL_117 co0 hB dL_reads_1 rfl (by decide) (by decide) rfl [(0, 4, 5, 16)] [(0, 4, 12, 18)] (0, 4, 8, 30) rfl (hp_cons (by decide) xc_16 nc_IllegalSta_IllegalArg hp_nil) (by decide) (by decide) (by decide) xc_30 xt_IllegalSta 1 (Or.inl ⟨1, rfl, dL_reads_8, rfl⟩) (by decide) rfl) ?_
      refine ex_s (fun _ => ev_bipush (v := -2) dL_reads_9 (by decide)) ?_
      exact ⟨_, w1, ⟨rfl, hA, hf⟩, ev_iret dL_reads_11 rfl rfl rfl rfl⟩
    · have hB := big_o (show o = .inr "java/lang/UnsupportedOperationException" from ho) hB
      refine bx_of (P := pL_ [(-1), (-2), (-3)] ((3, v), A2) w) (by decide +kernel) (Nat.le_of_ble_eq_true rfl) ?_
      show Ex G 20 1 mL_reads 0 [some (.ref 0), none] [] w _
      refine ex_s (fun _ => ev_aload_n dL_reads_0 rfl) ?_
      refine ex_s2 (fun Z => @ev_callVc G 20 1 _ 1 mL_reads mX11_read 1 117 0 0 1 [some (.ref 0), none] [] [] w w1 "java/lang/UnsupportedOperationException" Z kL_117 co0 hB dL_reads_1 rfl (by decide) (by decide) rfl [(0, 4, 5, 16), (0, 4, 8, 30)] [] (0, 4, 12, 18) rfl (hp_cons (by decide) xc_16 nc_Unsupporte_IllegalArg (hp_cons (by decide) xc_30 nc_Unsupporte_IllegalSta hp_nil)) (by decide) (by decide) (by decide) xc_18 xt_Unsupporte 1 (Or.inl ⟨1, rfl, dL_reads_12, rfl⟩) (by decide) rfl) ?_
      refine ex_s (fun _ => ev_bipush (v := -3) dL_reads_13 (by decide)) ?_
      exact ⟨_, w1, ⟨rfl, hA, hf⟩, ev_iret dL_reads_15 rfl rfl rfl rfl⟩
theorem le_reason {A : AS} {x : Int32} {b : Bool} : (spRea A x b).1.1 ≤ 2 := by
  unfold spRea
  (repeat' split) <;> exact Nat.le_of_ble_eq_true rfl
set_option maxRecDepth 4000 in
theorem hL_reason {G : GX} {w : WS} {A : AS} (h : aX A w) (x : Int32) (b : Bool) : ∃ o w2, pL_ [(-1012), (-1015)] (spRea A x b) w o w2 ∧ Big G 20 1 mL_reason [.ref 0, .int x, .int (bI b)] w o w2 := by
  obtain ⟨o, w1, ⟨ho, hA, hf⟩, hB⟩ := fX11_reason (G := G) h x b
  have hle : (spRea A x b).1.1 ≤ 2 := le_reason
  generalize spRea A x b = r at ho hA hle ⊢
  obtain ⟨⟨k, v⟩, A2⟩ := r
  have hle : k ≤ 2 := hle
  rcases Nat.eq_zero_or_pos k with rfl | hk
  · have hB := big_o (show o = .inl (some (.int v)) from ho) hB
    refine bx_of (P := pL_ [(-1012), (-1015)] ((0, v), A2) w) (by decide +kernel) (Nat.le_of_ble_eq_true rfl) ?_
    show Ex G 20 1 mL_reason 0 [some (.ref 0), some (.int x), some (.int (bI b)), none] [] w _
    refine ex_s (fun _ => ev_aload_n dL_reason_0 rfl) ?_
    refine ex_s (fun _ => ev_iload_n dL_reason_1 rfl) ?_
    refine ex_s (fun _ => ev_iload_n dL_reason_2 rfl) ?_
    refine ex_s2 (fun _ => ev_callV kL_123 co0 hB dL_reason_3 rfl (by decide) (by decide) rfl) ?_
    exact ⟨_, w1, ⟨rfl, hA, hf⟩, ev_iret dL_reason_6 rfl rfl rfl rfl⟩
  · have hk1 : 1 ≤ k := hk
    rcases (by omega : k = 1 ∨ k = 2) with rfl | rfl
    · have hB := big_o (show o = .inr "java/lang/IllegalArgumentException" from ho) hB
      refine bx_of (P := pL_ [(-1012), (-1015)] ((1, v), A2) w) (by decide +kernel) (Nat.le_of_ble_eq_true rfl) ?_
      show Ex G 20 1 mL_reason 0 [some (.ref 0), some (.int x), some (.int (bI b)), none] [] w _
      refine ex_s (fun _ => ev_aload_n dL_reason_0 rfl) ?_
      refine ex_s (fun _ => ev_iload_n dL_reason_1 rfl) ?_
      refine ex_s (fun _ => ev_iload_n dL_reason_2 rfl) ?_
      refine ex_s2 (fun Z => @ev_callVc G 20 1 _ 1 mL_reason mX11_reason 3 123 2 0 3 [some (.ref 0), some (.int x), some (.int (bI b)), none] [.int x, .int (bI b)] [] w w1 "java/lang/IllegalArgumentException" Z kL_123 co0 hB dL_reason_3 rfl (by decide) (by decide) rfl [] [(0, 6, 12, 53)] (0, 6, 7, 16) rfl hp_nil (by decide) (by decide) (by decide) xc_16 xt_IllegalArg 1 (Or.inl ⟨3, rfl, dL_reason_7, rfl⟩) (by decide) rfl) ?_
      refine ex_s (fun _ => ev_sipush (v := -1012) dL_reason_8 (by decide)) ?_
      exact ⟨_, w1, ⟨rfl, hA, hf⟩, ev_iret dL_reason_11 rfl rfl rfl rfl⟩
    · have hB := big_o (show o = .inr "java/util/NoSuchElementException" from ho) hB
      refine bx_of (P := pL_ [(-1012), (-1015)] ((2, v), A2) w) (by decide +kernel) (Nat.le_of_ble_eq_true rfl) ?_
      show Ex G 20 1 mL_reason 0 [some (.ref 0), some (.int x), some (.int (bI b)), none] [] w _
      refine ex_s (fun _ => ev_aload_n dL_reason_0 rfl) ?_
      refine ex_s (fun _ => ev_iload_n dL_reason_1 rfl) ?_
      refine ex_s (fun _ => ev_iload_n dL_reason_2 rfl) ?_
      refine ex_s2 (fun Z => @ev_callVc G 20 1 _ 1 mL_reason mX11_reason 3 123 2 0 3 [some (.ref 0), some (.int x), some (.int (bI b)), none] [.int x, .int (bI b)] [] w w1 "java/util/NoSuchElementException" Z kL_123 co0 hB dL_reason_3 rfl (by decide) (by decide) rfl [(0, 6, 7, 16)] [] (0, 6, 12, 53) rfl (hp_cons (by decide) xc_16 nc_NoSuchElem_IllegalArg hp_nil) (by decide) (by decide) (by decide) xc_53 xt_NoSuchElem 1 (Or.inl ⟨3, rfl, dL_reason_12, rfl⟩) (by decide) rfl) ?_
      refine ex_s (fun _ => ev_sipush (v := -1015) dL_reason_13 (by decide)) ?_
      exact ⟨_, w1, ⟨rfl, hA, hf⟩, ev_iret dL_reason_16 rfl rfl rfl rfl⟩
theorem le_undo {A : AS} : (spUndo A).1.1 ≤ 1 := by
  unfold spUndo
  (repeat' split) <;> exact Nat.le_of_ble_eq_true rfl
set_option maxRecDepth 4000 in
theorem hL_undo {G : GX} {w : WS} {A : AS} (h : aX A w) : ∃ o w2, pL_ [(-15)] (spUndo A) w o w2 ∧ Big G 20 1 mL_undo [.ref 0] w o w2 := by
  obtain ⟨o, w1, ⟨ho, hA, hf⟩, hB⟩ := fX11_undo (G := G) h
  have hle : (spUndo A).1.1 ≤ 1 := le_undo
  generalize spUndo A = r at ho hA hle ⊢
  obtain ⟨⟨k, v⟩, A2⟩ := r
  have hle : k ≤ 1 := hle
  rcases Nat.eq_zero_or_pos k with rfl | hk
  · have hB := big_o (show o = .inl (some (.int v)) from ho) hB
    refine bx_of (P := pL_ [(-15)] ((0, v), A2) w) (by decide +kernel) (Nat.le_of_ble_eq_true rfl) ?_
    show Ex G 20 1 mL_undo 0 [some (.ref 0), none] [] w _
    refine ex_s (fun _ => ev_aload_n dL_undo_0 rfl) ?_
    refine ex_s2 (fun _ => ev_callV kL_127 co0 hB dL_undo_1 rfl (by decide) (by decide) rfl) ?_
    exact ⟨_, w1, ⟨rfl, hA, hf⟩, ev_iret dL_undo_4 rfl rfl rfl rfl⟩
  · have hk1 : 1 ≤ k := hk
    obtain rfl : k = 1 := by omega
    skip
    have hB := big_o (show o = .inr "java/util/NoSuchElementException" from ho) hB
    refine bx_of (P := pL_ [(-15)] ((1, v), A2) w) (by decide +kernel) (Nat.le_of_ble_eq_true rfl) ?_
    show Ex G 20 1 mL_undo 0 [some (.ref 0), none] [] w _
    refine ex_s (fun _ => ev_aload_n dL_undo_0 rfl) ?_
    refine ex_s2 (fun Z => @ev_callVc G 20 1 _ 1 mL_undo mX11_undo 1 127 0 0 1 [some (.ref 0), none] [] [] w w1 "java/util/NoSuchElementException" Z kL_127 co0 hB dL_undo_1 rfl (by decide) (by decide) rfl [] [] (0, 4, 5, 53) rfl hp_nil (by decide) (by decide) (by decide) xc_53 xt_NoSuchElem 1 (Or.inl ⟨1, rfl, dL_undo_5, rfl⟩) (by decide) rfl) ?_
    refine ex_s (fun _ => ev_bipush (v := -15) dL_undo_6 (by decide)) ?_
    exact ⟨_, w1, ⟨rfl, hA, hf⟩, ev_iret dL_undo_8 rfl rfl rfl rfl⟩
