/-! the law's own methods: a call of the class and what it throws -/
theorem big_o {G : GX} {d b : Nat} {M : MT} {args : List Value} {w w2 : WS} {o o2 : OT} (h : o = o2) (hB : Big G d b M args w o w2) : Big G d b M args w o2 w2 := by rw [← h]; exact hB
theorem xc_116 : Cond.classLink "MapScalesLaw" 116 "java/lang/ArithmeticException" ∈ gd_ := gc5 92 (by decide +kernel) rfl
theorem xc_13 : Cond.classLink "MapScalesLaw" 13 "java/lang/IndexOutOfBoundsException" ∈ gd_ := gc2 214 (by decide +kernel) rfl
theorem xc_15 : Cond.classLink "MapScalesLaw" 15 "java/lang/IllegalArgumentException" ∈ gd_ := gc3 54 (by decide +kernel) rfl
theorem xc_17 : Cond.classLink "MapScalesLaw" 17 "java/lang/UnsupportedOperationException" ∈ gd_ := gc3 55 (by decide +kernel) rfl
theorem xc_29 : Cond.classLink "MapScalesLaw" 29 "java/lang/IllegalStateException" ∈ gd_ := gc4 7 (by decide +kernel) rfl
theorem xc_52 : Cond.classLink "MapScalesLaw" 52 "java/util/NoSuchElementException" ∈ gd_ := gc4 130 (by decide +kernel) rfl
theorem nc_IllegalArg_IndexOutOf : ("java/lang/IllegalArgumentException", "java/lang/IndexOutOfBoundsException") ∈ ncs_ := List.mem_of_getElem? (i := 5) rfl
theorem nc_IllegalSta_IllegalArg : ("java/lang/IllegalStateException", "java/lang/IllegalArgumentException") ∈ ncs_ := List.mem_of_getElem? (i := 11) rfl
theorem nc_IllegalSta_IndexOutOf : ("java/lang/IllegalStateException", "java/lang/IndexOutOfBoundsException") ∈ ncs_ := List.mem_of_getElem? (i := 10) rfl
theorem nc_Unsupporte_IllegalArg : ("java/lang/UnsupportedOperationException", "java/lang/IllegalArgumentException") ∈ ncs_ := List.mem_of_getElem? (i := 16) rfl
theorem nc_Unsupporte_IllegalSta : ("java/lang/UnsupportedOperationException", "java/lang/IllegalStateException") ∈ ncs_ := List.mem_of_getElem? (i := 17) rfl
theorem nc_Unsupporte_IndexOutOf : ("java/lang/UnsupportedOperationException", "java/lang/IndexOutOfBoundsException") ∈ ncs_ := List.mem_of_getElem? (i := 15) rfl
theorem nc_NoSuchElem_IllegalArg : ("java/util/NoSuchElementException", "java/lang/IllegalArgumentException") ∈ ncs_ := List.mem_of_getElem? (i := 21) rfl
theorem nc_NoSuchElem_IndexOutOf : ("java/util/NoSuchElementException", "java/lang/IndexOutOfBoundsException") ∈ ncs_ := List.mem_of_getElem? (i := 20) rfl
theorem xt_Arithmetic : Cond.castable "java/lang/ArithmeticException" "java/lang/ArithmeticException" ∈ tables_1 := tc5 104 (by decide +kernel)
theorem xt_IllegalArg : Cond.castable "java/lang/IllegalArgumentException" "java/lang/IllegalArgumentException" ∈ tables_1 := tc3 81 (by decide +kernel)
theorem xt_IllegalSta : Cond.castable "java/lang/IllegalStateException" "java/lang/IllegalStateException" ∈ tables_1 := tc4 38 (by decide +kernel)
theorem xt_IndexOutOf : Cond.castable "java/lang/IndexOutOfBoundsException" "java/lang/IndexOutOfBoundsException" ∈ tables_1 := tc3 65 (by decide +kernel)
theorem xt_Unsupporte : Cond.castable "java/lang/UnsupportedOperationException" "java/lang/UnsupportedOperationException" ∈ tables_1 := tc3 155 (by decide +kernel)
theorem xt_NoSuchElem : Cond.castable "java/util/NoSuchElementException" "java/util/NoSuchElementException" ∈ tables_1 := tc4 137 (by decide +kernel)
theorem hp_nil {own E : String} : hp_ own E [] := fun z hz => by cases hz
theorem hp_cons {own E nm : String} {z : Nat × Nat × Nat × Nat} {l : List (Nat × Nat × Nat × Nat)} (h0 : z.2.2.2 ≠ 0) (h1 : Cond.classLink own z.2.2.2 nm ∈ gd_) (h2 : (E, nm) ∈ ncs_) (h : hp_ own E l) : hp_ own E (z :: l) := fun y hy => by
  rcases List.mem_cons.mp hy with rfl | hy
  · exact ⟨h0, nm, h1, h2⟩
  · exact h y hy
theorem fr_out {w w1 : WS} (h : frG [(0, 114)] w w1) {k : Nat} (hk : 114 < k) : w1.1 k = w.1 k := h.1 k (by simp; omega)
theorem aX_of {A : AS} {w w2 : WS} (e : w2.1 = w.1) (h : aX A w) : aX A w2 := by
  obtain ⟨f, l⟩ := w
  obtain ⟨f2, l2⟩ := w2
  cases e
  exact h
def pWr (r : (Nat × Int32) × AS) (w : WS) : OT → WS → Prop := fun o w2 => o = .inl (some (.int (nI r.1.1))) ∧ aX r.2 w2 ∧ (∀ k, 114 < k → w2.1 k = w.1 k) ∧ (r.1.1 = 0 → w2.2.1 = r.1.2.toInt64)
def pWb (r : (Nat × Int32) × AS) (w : WS) : OT → WS → Prop := fun o w2 => o = .inl (some (.int (nI r.1.1))) ∧ aX r.2 w2 ∧ (∀ k, 114 < k → w2.1 k = w.1 k) ∧ (r.1.1 = 0 → w2.2.1 = if r.1.2 = 0 then 0 else 1)
def pWd (S : ST) (A : AS) (w : WS) : OT → WS → Prop := fun o w2 => o = .inl (some (.int (nI (if nR S = 0 then 1 else 0)))) ∧ aX A w2 ∧ (∀ k, 114 < k → w2.1 k = w.1 k) ∧ (nR S ≠ 0 → w2.2.2 = mwD S)
theorem le_paint {A : AS} {x : Int32} {y : Int32} : (spPaint A x y).1.1 ≤ 3 := by
  unfold spPaint spCh
  (repeat' split) <;> exact Nat.le_of_ble_eq_true rfl
set_option maxRecDepth 4000 in
theorem hL_paint {G : GX} {w : WS} {A : AS} (h : aX A w) (x : Int32) (y : Int32) : ∃ o w2, pWr (spPaint A x y) w o w2 ∧ Big G 20 1 mL_paint [.ref 0, .int x, .int y, .ref 125] w o w2 := by
  obtain ⟨o, w1, ⟨ho, hA, hf⟩, hB⟩ := fX11_paint (G := G) h x y
  have hle : (spPaint A x y).1.1 ≤ 3 := le_paint
  generalize spPaint A x y = r at ho hA hle ⊢
  obtain ⟨⟨k, v⟩, A2⟩ := r
  have hle : k ≤ 3 := hle
  rcases Nat.eq_zero_or_pos k with rfl | hk
  · have hB := big_o (show o = .inl (some (.int v)) from ho) hB
    refine bx_of (P := pWr ((0, v), A2) w) (by decide +kernel) (Nat.le_of_ble_eq_true rfl) ?_
    show Ex G 20 1 mL_paint 0 [some (.ref 0), some (.int x), some (.int y), some (.ref 125), none] [] w _
    refine ex_s (fun _ => ev_aload_n dL_paint_0 rfl) ?_
    refine ex_s (fun _ => ev_iconst dL_paint_1 ic0) ?_
    refine ex_s (fun _ => ev_aload_n dL_paint_2 rfl) ?_
    refine ex_s (fun _ => ev_iload_n dL_paint_3 rfl) ?_
    refine ex_s (fun _ => ev_iload_n dL_paint_4 rfl) ?_
    refine ex_s2 (fun _ => ev_callV kL_7 co0 hB dL_paint_5 rfl (by decide) (by decide) rfl) ?_
    refine ex_s (fun _ => ev_i2l dL_paint_8) ?_
    refine ex_s (fun _ => ev_lastore dL_paint_9 rfl) ?_
    refine ex_s (fun _ => ev_goto (tgt := 25) dL_paint_10 (by decide)) ?_
    refine ex_s (fun _ => ev_iconst dL_paint_25 ic0) ?_
    exact ⟨_, (w1.1, v.toInt64, w1.2.2), ⟨rfl, aX_of rfl hA, fun k hk => fr_out hf hk, fun _ => rfl⟩, ev_iret dL_paint_26 rfl rfl rfl rfl⟩
  · have hk1 : 1 ≤ k := hk
    rcases (by omega : k = 1 ∨ k = 2 ∨ k = 3) with rfl | rfl | rfl
    · have hB := big_o (show o = .inr "java/lang/IndexOutOfBoundsException" from ho) hB
      refine bx_of (P := pWr ((1, v), A2) w) (by decide +kernel) (Nat.le_of_ble_eq_true rfl) ?_
      show Ex G 20 1 mL_paint 0 [some (.ref 0), some (.int x), some (.int y), some (.ref 125), none] [] w _
      refine ex_s (fun _ => ev_aload_n dL_paint_0 rfl) ?_
      refine ex_s (fun _ => ev_iconst dL_paint_1 ic0) ?_
      refine ex_s (fun _ => ev_aload_n dL_paint_2 rfl) ?_
      refine ex_s (fun _ => ev_iload_n dL_paint_3 rfl) ?_
      refine ex_s (fun _ => ev_iload_n dL_paint_4 rfl) ?_
      refine ex_s2 (fun Z => @ev_callVc G 20 1 _ 1 mL_paint mX11_paint 5 7 2 0 4 [some (.ref 0), some (.int x), some (.int y), some (.ref 125), none] [.int x, .int y] [.int (nI 0), .ref 125] w w1 "java/lang/IndexOutOfBoundsException" Z kL_7 co0 hB dL_paint_5 rfl (by decide) (by decide) rfl [] [(0, 10, 17, 15), (0, 10, 21, 17)] (0, 10, 13, 13) rfl hp_nil (by decide) (by decide) (by decide) xc_13 xt_IndexOutOf 2 (Or.inr ⟨dL_paint_13, rfl⟩) (by decide) rfl) ?_
      refine ex_s (fun _ => ev_iconst dL_paint_15 ic1) ?_
      exact ⟨_, _, ⟨rfl, hA, fun k hk => fr_out hf hk, fun z => absurd (show (1 : Nat) = 0 from z) (by decide)⟩, ev_iret dL_paint_16 rfl rfl rfl rfl⟩
    · have hB := big_o (show o = .inr "java/lang/IllegalArgumentException" from ho) hB
      refine bx_of (P := pWr ((2, v), A2) w) (by decide +kernel) (Nat.le_of_ble_eq_true rfl) ?_
      show Ex G 20 1 mL_paint 0 [some (.ref 0), some (.int x), some (.int y), some (.ref 125), none] [] w _
      refine ex_s (fun _ => ev_aload_n dL_paint_0 rfl) ?_
      refine ex_s (fun _ => ev_iconst dL_paint_1 ic0) ?_
      refine ex_s (fun _ => ev_aload_n dL_paint_2 rfl) ?_
      refine ex_s (fun _ => ev_iload_n dL_paint_3 rfl) ?_
      refine ex_s (fun _ => ev_iload_n dL_paint_4 rfl) ?_
      refine ex_s2 (fun Z => @ev_callVc G 20 1 _ 1 mL_paint mX11_paint 5 7 2 0 4 [some (.ref 0), some (.int x), some (.int y), some (.ref 125), none] [.int x, .int y] [.int (nI 0), .ref 125] w w1 "java/lang/IllegalArgumentException" Z kL_7 co0 hB dL_paint_5 rfl (by decide) (by decide) rfl [(0, 10, 13, 13)] [(0, 10, 21, 17)] (0, 10, 17, 15) rfl (hp_cons (by decide) xc_13 nc_IllegalArg_IndexOutOf hp_nil) (by decide) (by decide) (by decide) xc_15 xt_IllegalArg 2 (Or.inr ⟨dL_paint_17, rfl⟩) (by decide) rfl) ?_
      refine ex_s (fun _ => ev_iconst dL_paint_19 ic2) ?_
      exact ⟨_, _, ⟨rfl, hA, fun k hk => fr_out hf hk, fun z => absurd (show (2 : Nat) = 0 from z) (by decide)⟩, ev_iret dL_paint_20 rfl rfl rfl rfl⟩
    · have hB := big_o (show o = .inr "java/lang/UnsupportedOperationException" from ho) hB
      refine bx_of (P := pWr ((3, v), A2) w) (by decide +kernel) (Nat.le_of_ble_eq_true rfl) ?_
      show Ex G 20 1 mL_paint 0 [some (.ref 0), some (.int x), some (.int y), some (.ref 125), none] [] w _
      refine ex_s (fun _ => ev_aload_n dL_paint_0 rfl) ?_
      refine ex_s (fun _ => ev_iconst dL_paint_1 ic0) ?_
      refine ex_s (fun _ => ev_aload_n dL_paint_2 rfl) ?_
      refine ex_s (fun _ => ev_iload_n dL_paint_3 rfl) ?_
      refine ex_s (fun _ => ev_iload_n dL_paint_4 rfl) ?_
      refine ex_s2 (fun Z => @ev_callVc G 20 1 _ 1 mL_paint mX11_paint 5 7 2 0 4 [some (.ref 0), some (.int x), some (.int y), some (.ref 125), none] [.int x, .int y] [.int (nI 0), .ref 125] w w1 "java/lang/UnsupportedOperationException" Z kL_7 co0 hB dL_paint_5 rfl (by decide) (by decide) rfl [(0, 10, 13, 13), (0, 10, 17, 15)] [] (0, 10, 21, 17) rfl (hp_cons (by decide) xc_13 nc_Unsupporte_IndexOutOf (hp_cons (by decide) xc_15 nc_Unsupporte_IllegalArg hp_nil)) (by decide) (by decide) (by decide) xc_17 xt_Unsupporte 2 (Or.inr ⟨dL_paint_21, rfl⟩) (by decide) rfl) ?_
      refine ex_s (fun _ => ev_iconst dL_paint_23 ic3) ?_
      exact ⟨_, _, ⟨rfl, hA, fun k hk => fr_out hf hk, fun z => absurd (show (3 : Nat) = 0 from z) (by decide)⟩, ev_iret dL_paint_24 rfl rfl rfl rfl⟩
theorem le_shave {A : AS} {x : Int32} {y : Int32} : (spShave A x y).1.1 ≤ 2 := by
  unfold spShave spCh
  (repeat' split) <;> exact Nat.le_of_ble_eq_true rfl
set_option maxRecDepth 4000 in
theorem hL_shave {G : GX} {w : WS} {A : AS} (h : aX A w) (x : Int32) (y : Int32) : ∃ o w2, pWr (spShave A x y) w o w2 ∧ Big G 20 1 mL_shave [.ref 0, .int x, .int y, .ref 125] w o w2 := by
  obtain ⟨o, w1, ⟨ho, hA, hf⟩, hB⟩ := fX11_shave (G := G) h x y
  have hle : (spShave A x y).1.1 ≤ 2 := le_shave
  generalize spShave A x y = r at ho hA hle ⊢
  obtain ⟨⟨k, v⟩, A2⟩ := r
  have hle : k ≤ 2 := hle
  rcases Nat.eq_zero_or_pos k with rfl | hk
  · have hB := big_o (show o = .inl (some (.int v)) from ho) hB
    refine bx_of (P := pWr ((0, v), A2) w) (by decide +kernel) (Nat.le_of_ble_eq_true rfl) ?_
    show Ex G 20 1 mL_shave 0 [some (.ref 0), some (.int x), some (.int y), some (.ref 125), none] [] w _
    refine ex_s (fun _ => ev_aload_n dL_shave_0 rfl) ?_
    refine ex_s (fun _ => ev_iconst dL_shave_1 ic0) ?_
    refine ex_s (fun _ => ev_aload_n dL_shave_2 rfl) ?_
    refine ex_s (fun _ => ev_iload_n dL_shave_3 rfl) ?_
    refine ex_s (fun _ => ev_iload_n dL_shave_4 rfl) ?_
    refine ex_s2 (fun _ => ev_callV kL_19 co0 hB dL_shave_5 rfl (by decide) (by decide) rfl) ?_
    refine ex_s (fun _ => ev_i2l dL_shave_8) ?_
    refine ex_s (fun _ => ev_lastore dL_shave_9 rfl) ?_
    refine ex_s (fun _ => ev_goto (tgt := 21) dL_shave_10 (by decide)) ?_
    refine ex_s (fun _ => ev_iconst dL_shave_21 ic0) ?_
    exact ⟨_, (w1.1, v.toInt64, w1.2.2), ⟨rfl, aX_of rfl hA, fun k hk => fr_out hf hk, fun _ => rfl⟩, ev_iret dL_shave_22 rfl rfl rfl rfl⟩
  · have hk1 : 1 ≤ k := hk
    rcases (by omega : k = 1 ∨ k = 2) with rfl | rfl
    · have hB := big_o (show o = .inr "java/lang/IndexOutOfBoundsException" from ho) hB
      refine bx_of (P := pWr ((1, v), A2) w) (by decide +kernel) (Nat.le_of_ble_eq_true rfl) ?_
      show Ex G 20 1 mL_shave 0 [some (.ref 0), some (.int x), some (.int y), some (.ref 125), none] [] w _
      refine ex_s (fun _ => ev_aload_n dL_shave_0 rfl) ?_
      refine ex_s (fun _ => ev_iconst dL_shave_1 ic0) ?_
      refine ex_s (fun _ => ev_aload_n dL_shave_2 rfl) ?_
      refine ex_s (fun _ => ev_iload_n dL_shave_3 rfl) ?_
      refine ex_s (fun _ => ev_iload_n dL_shave_4 rfl) ?_
      refine ex_s2 (fun Z => @ev_callVc G 20 1 _ 1 mL_shave mX11_shave 5 19 2 0 4 [some (.ref 0), some (.int x), some (.int y), some (.ref 125), none] [.int x, .int y] [.int (nI 0), .ref 125] w w1 "java/lang/IndexOutOfBoundsException" Z kL_19 co0 hB dL_shave_5 rfl (by decide) (by decide) rfl [] [(0, 10, 17, 17)] (0, 10, 13, 13) rfl hp_nil (by decide) (by decide) (by decide) xc_13 xt_IndexOutOf 2 (Or.inr ⟨dL_shave_13, rfl⟩) (by decide) rfl) ?_
      refine ex_s (fun _ => ev_iconst dL_shave_15 ic1) ?_
      exact ⟨_, _, ⟨rfl, hA, fun k hk => fr_out hf hk, fun z => absurd (show (1 : Nat) = 0 from z) (by decide)⟩, ev_iret dL_shave_16 rfl rfl rfl rfl⟩
    · have hB := big_o (show o = .inr "java/lang/UnsupportedOperationException" from ho) hB
      refine bx_of (P := pWr ((2, v), A2) w) (by decide +kernel) (Nat.le_of_ble_eq_true rfl) ?_
      show Ex G 20 1 mL_shave 0 [some (.ref 0), some (.int x), some (.int y), some (.ref 125), none] [] w _
      refine ex_s (fun _ => ev_aload_n dL_shave_0 rfl) ?_
      refine ex_s (fun _ => ev_iconst dL_shave_1 ic0) ?_
      refine ex_s (fun _ => ev_aload_n dL_shave_2 rfl) ?_
      refine ex_s (fun _ => ev_iload_n dL_shave_3 rfl) ?_
      refine ex_s (fun _ => ev_iload_n dL_shave_4 rfl) ?_
      refine ex_s2 (fun Z => @ev_callVc G 20 1 _ 1 mL_shave mX11_shave 5 19 2 0 4 [some (.ref 0), some (.int x), some (.int y), some (.ref 125), none] [.int x, .int y] [.int (nI 0), .ref 125] w w1 "java/lang/UnsupportedOperationException" Z kL_19 co0 hB dL_shave_5 rfl (by decide) (by decide) rfl [(0, 10, 13, 13)] [] (0, 10, 17, 17) rfl (hp_cons (by decide) xc_13 nc_Unsupporte_IndexOutOf hp_nil) (by decide) (by decide) (by decide) xc_17 xt_Unsupporte 2 (Or.inr ⟨dL_shave_17, rfl⟩) (by decide) rfl) ?_
      refine ex_s (fun _ => ev_iconst dL_shave_19 ic2) ?_
      exact ⟨_, _, ⟨rfl, hA, fun k hk => fr_out hf hk, fun z => absurd (show (2 : Nat) = 0 from z) (by decide)⟩, ev_iret dL_shave_20 rfl rfl rfl rfl⟩
theorem le_scale {A : AS} {x : Int32} : (spScale A x).1.1 ≤ 2 := by
  unfold spScale spCh
  (repeat' split) <;> exact Nat.le_of_ble_eq_true rfl
set_option maxRecDepth 4000 in
theorem hL_scale {G : GX} {w : WS} {A : AS} (h : aX A w) (x : Int32) : ∃ o w2, pWr (spScale A x) w o w2 ∧ Big G 20 1 mL_scale [.ref 0, .int x, .ref 125] w o w2 := by
  obtain ⟨o, w1, ⟨ho, hA, hf⟩, hB⟩ := fX11_scale (G := G) h x
  have hle : (spScale A x).1.1 ≤ 2 := le_scale
  generalize spScale A x = r at ho hA hle ⊢
  obtain ⟨⟨k, v⟩, A2⟩ := r
  have hle : k ≤ 2 := hle
  rcases Nat.eq_zero_or_pos k with rfl | hk
  · have hB := big_o (show o = .inl (some (.int v)) from ho) hB
    refine bx_of (P := pWr ((0, v), A2) w) (by decide +kernel) (Nat.le_of_ble_eq_true rfl) ?_
    show Ex G 20 1 mL_scale 0 [some (.ref 0), some (.int x), some (.ref 125), none] [] w _
    refine ex_s (fun _ => ev_aload_n dL_scale_0 rfl) ?_
    refine ex_s (fun _ => ev_iconst dL_scale_1 ic0) ?_
    refine ex_s (fun _ => ev_aload_n dL_scale_2 rfl) ?_
    refine ex_s (fun _ => ev_iload_n dL_scale_3 rfl) ?_
    refine ex_s2 (fun _ => ev_callV kL_22 co0 hB dL_scale_4 rfl (by decide) (by decide) rfl) ?_
    refine ex_s (fun _ => ev_i2l dL_scale_7) ?_
    refine ex_s (fun _ => ev_lastore dL_scale_8 rfl) ?_
    refine ex_s (fun _ => ev_goto (tgt := 18) dL_scale_9 (by decide)) ?_
    refine ex_s (fun _ => ev_iconst dL_scale_18 ic0) ?_
    exact ⟨_, (w1.1, v.toInt64, w1.2.2), ⟨rfl, aX_of rfl hA, fun k hk => fr_out hf hk, fun _ => rfl⟩, ev_iret dL_scale_19 rfl rfl rfl rfl⟩
  · have hk1 : 1 ≤ k := hk
    rcases (by omega : k = 1 ∨ k = 2) with rfl | rfl
    · have hB := big_o (show o = .inr "java/lang/IllegalArgumentException" from ho) hB
      refine bx_of (P := pWr ((1, v), A2) w) (by decide +kernel) (Nat.le_of_ble_eq_true rfl) ?_
      show Ex G 20 1 mL_scale 0 [some (.ref 0), some (.int x), some (.ref 125), none] [] w _
      refine ex_s (fun _ => ev_aload_n dL_scale_0 rfl) ?_
      refine ex_s (fun _ => ev_iconst dL_scale_1 ic0) ?_
      refine ex_s (fun _ => ev_aload_n dL_scale_2 rfl) ?_
      refine ex_s (fun _ => ev_iload_n dL_scale_3 rfl) ?_
      refine ex_s2 (fun Z => @ev_callVc G 20 1 _ 1 mL_scale mX11_scale 4 22 1 0 3 [some (.ref 0), some (.int x), some (.ref 125), none] [.int x] [.int (nI 0), .ref 125] w w1 "java/lang/IllegalArgumentException" Z kL_22 co0 hB dL_scale_4 rfl (by decide) (by decide) rfl [] [(0, 9, 15, 17)] (0, 9, 12, 15) rfl hp_nil (by decide) (by decide) (by decide) xc_15 xt_IllegalArg 1 (Or.inl ⟨3, rfl, dL_scale_12, rfl⟩) (by decide) rfl) ?_
      refine ex_s (fun _ => ev_iconst dL_scale_13 ic1) ?_
      exact ⟨_, _, ⟨rfl, hA, fun k hk => fr_out hf hk, fun z => absurd (show (1 : Nat) = 0 from z) (by decide)⟩, ev_iret dL_scale_14 rfl rfl rfl rfl⟩
    · have hB := big_o (show o = .inr "java/lang/UnsupportedOperationException" from ho) hB
      refine bx_of (P := pWr ((2, v), A2) w) (by decide +kernel) (Nat.le_of_ble_eq_true rfl) ?_
      show Ex G 20 1 mL_scale 0 [some (.ref 0), some (.int x), some (.ref 125), none] [] w _
      refine ex_s (fun _ => ev_aload_n dL_scale_0 rfl) ?_
      refine ex_s (fun _ => ev_iconst dL_scale_1 ic0) ?_
      refine ex_s (fun _ => ev_aload_n dL_scale_2 rfl) ?_
      refine ex_s (fun _ => ev_iload_n dL_scale_3 rfl) ?_
      refine ex_s2 (fun Z => @ev_callVc G 20 1 _ 1 mL_scale mX11_scale 4 22 1 0 3 [some (.ref 0), some (.int x), some (.ref 125), none] [.int x] [.int (nI 0), .ref 125] w w1 "java/lang/UnsupportedOperationException" Z kL_22 co0 hB dL_scale_4 rfl (by decide) (by decide) rfl [(0, 9, 12, 15)] [] (0, 9, 15, 17) rfl (hp_cons (by decide) xc_15 nc_Unsupporte_IllegalArg hp_nil) (by decide) (by decide) (by decide) xc_17 xt_Unsupporte 1 (Or.inl ⟨3, rfl, dL_scale_15, rfl⟩) (by decide) rfl) ?_
      refine ex_s (fun _ => ev_iconst dL_scale_16 ic2) ?_
      exact ⟨_, _, ⟨rfl, hA, fun k hk => fr_out hf hk, fun z => absurd (show (2 : Nat) = 0 from z) (by decide)⟩, ev_iret dL_scale_17 rfl rfl rfl rfl⟩
theorem le_river {A : AS} {x : Int32} {y : Int32} : (spRiver A x y).1.1 ≤ 4 := by
  unfold spRiver spCh
  (repeat' split) <;> exact Nat.le_of_ble_eq_true rfl
set_option maxRecDepth 4000 in
theorem hL_river {G : GX} {w : WS} {A : AS} (h : aX A w) (x : Int32) (y : Int32) : ∃ o w2, pWr (spRiver A x y) w o w2 ∧ Big G 20 1 mL_river [.ref 0, .int x, .int y, .ref 125] w o w2 := by
  obtain ⟨o, w1, ⟨ho, hA, hf⟩, hB⟩ := fX11_river (G := G) h x y
  have hle : (spRiver A x y).1.1 ≤ 4 := le_river
  generalize spRiver A x y = r at ho hA hle ⊢
  obtain ⟨⟨k, v⟩, A2⟩ := r
  have hle : k ≤ 4 := hle
  rcases Nat.eq_zero_or_pos k with rfl | hk
  · have hB := big_o (show o = .inl (some (.int v)) from ho) hB
    refine bx_of (P := pWr ((0, v), A2) w) (by decide +kernel) (Nat.le_of_ble_eq_true rfl) ?_
    show Ex G 20 1 mL_river 0 [some (.ref 0), some (.int x), some (.int y), some (.ref 125), none] [] w _
    refine ex_s (fun _ => ev_aload_n dL_river_0 rfl) ?_
    refine ex_s (fun _ => ev_iconst dL_river_1 ic0) ?_
    refine ex_s (fun _ => ev_aload_n dL_river_2 rfl) ?_
    refine ex_s (fun _ => ev_iload_n dL_river_3 rfl) ?_
    refine ex_s (fun _ => ev_iload_n dL_river_4 rfl) ?_
    refine ex_s2 (fun _ => ev_callV kL_26 co0 hB dL_river_5 rfl (by decide) (by decide) rfl) ?_
    refine ex_s (fun _ => ev_i2l dL_river_8) ?_
    refine ex_s (fun _ => ev_lastore dL_river_9 rfl) ?_
    refine ex_s (fun _ => ev_goto (tgt := 29) dL_river_10 (by decide)) ?_
    refine ex_s (fun _ => ev_iconst dL_river_29 ic0) ?_
    exact ⟨_, (w1.1, v.toInt64, w1.2.2), ⟨rfl, aX_of rfl hA, fun k hk => fr_out hf hk, fun _ => rfl⟩, ev_iret dL_river_30 rfl rfl rfl rfl⟩
  · have hk1 : 1 ≤ k := hk
    rcases (by omega : k = 1 ∨ k = 2 ∨ k = 3 ∨ k = 4) with rfl | rfl | rfl | rfl
    · have hB := big_o (show o = .inr "java/lang/IndexOutOfBoundsException" from ho) hB
      refine bx_of (P := pWr ((1, v), A2) w) (by decide +kernel) (Nat.le_of_ble_eq_true rfl) ?_
      show Ex G 20 1 mL_river 0 [some (.ref 0), some (.int x), some (.int y), some (.ref 125), none] [] w _
      refine ex_s (fun _ => ev_aload_n dL_river_0 rfl) ?_
      refine ex_s (fun _ => ev_iconst dL_river_1 ic0) ?_
      refine ex_s (fun _ => ev_aload_n dL_river_2 rfl) ?_
      refine ex_s (fun _ => ev_iload_n dL_river_3 rfl) ?_
      refine ex_s (fun _ => ev_iload_n dL_river_4 rfl) ?_
      refine ex_s2 (fun Z => @ev_callVc G 20 1 _ 1 mL_river mX11_river 5 26 2 0 4 [some (.ref 0), some (.int x), some (.int y), some (.ref 125), none] [.int x, .int y] [.int (nI 0), .ref 125] w w1 "java/lang/IndexOutOfBoundsException" Z kL_26 co0 hB dL_river_5 rfl (by decide) (by decide) rfl [] [(0, 10, 17, 15), (0, 10, 21, 29), (0, 10, 25, 17)] (0, 10, 13, 13) rfl hp_nil (by decide) (by decide) (by decide) xc_13 xt_IndexOutOf 2 (Or.inr ⟨dL_river_13, rfl⟩) (by decide) rfl) ?_
      refine ex_s (fun _ => ev_iconst dL_river_15 ic1) ?_
      exact ⟨_, _, ⟨rfl, hA, fun k hk => fr_out hf hk, fun z => absurd (show (1 : Nat) = 0 from z) (by decide)⟩, ev_iret dL_river_16 rfl rfl rfl rfl⟩
    · have hB := big_o (show o = .inr "java/lang/IllegalArgumentException" from ho) hB
      refine bx_of (P := pWr ((2, v), A2) w) (by decide +kernel) (Nat.le_of_ble_eq_true rfl) ?_
      show Ex G 20 1 mL_river 0 [some (.ref 0), some (.int x), some (.int y), some (.ref 125), none] [] w _
      refine ex_s (fun _ => ev_aload_n dL_river_0 rfl) ?_
      refine ex_s (fun _ => ev_iconst dL_river_1 ic0) ?_
      refine ex_s (fun _ => ev_aload_n dL_river_2 rfl) ?_
      refine ex_s (fun _ => ev_iload_n dL_river_3 rfl) ?_
      refine ex_s (fun _ => ev_iload_n dL_river_4 rfl) ?_
      refine ex_s2 (fun Z => @ev_callVc G 20 1 _ 1 mL_river mX11_river 5 26 2 0 4 [some (.ref 0), some (.int x), some (.int y), some (.ref 125), none] [.int x, .int y] [.int (nI 0), .ref 125] w w1 "java/lang/IllegalArgumentException" Z kL_26 co0 hB dL_river_5 rfl (by decide) (by decide) rfl [(0, 10, 13, 13)] [(0, 10, 21, 29), (0, 10, 25, 17)] (0, 10, 17, 15) rfl (hp_cons (by decide) xc_13 nc_IllegalArg_IndexOutOf hp_nil) (by decide) (by decide) (by decide) xc_15 xt_IllegalArg 2 (Or.inr ⟨dL_river_17, rfl⟩) (by decide) rfl) ?_
      refine ex_s (fun _ => ev_iconst dL_river_19 ic2) ?_
      exact ⟨_, _, ⟨rfl, hA, fun k hk => fr_out hf hk, fun z => absurd (show (2 : Nat) = 0 from z) (by decide)⟩, ev_iret dL_river_20 rfl rfl rfl rfl⟩
    · have hB := big_o (show o = .inr "java/lang/IllegalStateException" from ho) hB
      refine bx_of (P := pWr ((3, v), A2) w) (by decide +kernel) (Nat.le_of_ble_eq_true rfl) ?_
      show Ex G 20 1 mL_river 0 [some (.ref 0), some (.int x), some (.int y), some (.ref 125), none] [] w _
      refine ex_s (fun _ => ev_aload_n dL_river_0 rfl) ?_
      refine ex_s (fun _ => ev_iconst dL_river_1 ic0) ?_
      refine ex_s (fun _ => ev_aload_n dL_river_2 rfl) ?_
      refine ex_s (fun _ => ev_iload_n dL_river_3 rfl) ?_
      refine ex_s (fun _ => ev_iload_n dL_river_4 rfl) ?_
      refine ex_s2 (fun Z => @ev_callVc G 20 1 _ 1 mL_river mX11_river 5 26 2 0 4 [some (.ref 0), some (.int x), some (.int y), some (.ref 125), none] [.int x, .int y] [.int (nI 0), .ref 125] w w1 "java/lang/IllegalStateException" Z kL_26 co0 hB dL_river_5 rfl (by decide) (by decide) rfl [(0, 10, 13, 13), (0, 10, 17, 15)] [(0, 10, 25, 17)] (0, 10, 21, 29) rfl (hp_cons (by decide) xc_13 nc_IllegalSta_IndexOutOf (hp_cons (by decide) xc_15 nc_IllegalSta_IllegalArg hp_nil)) (by decide) (by decide) (by decide) xc_29 xt_IllegalSta 2 (Or.inr ⟨dL_river_21, rfl⟩) (by decide) rfl) ?_
      refine ex_s (fun _ => ev_iconst dL_river_23 ic3) ?_
      exact ⟨_, _, ⟨rfl, hA, fun k hk => fr_out hf hk, fun z => absurd (show (3 : Nat) = 0 from z) (by decide)⟩, ev_iret dL_river_24 rfl rfl rfl rfl⟩
    · have hB := big_o (show o = .inr "java/lang/UnsupportedOperationException" from ho) hB
      refine bx_of (P := pWr ((4, v), A2) w) (by decide +kernel) (Nat.le_of_ble_eq_true rfl) ?_
      show Ex G 20 1 mL_river 0 [some (.ref 0), some (.int x), some (.int y), some (.ref 125), none] [] w _
      refine ex_s (fun _ => ev_aload_n dL_river_0 rfl) ?_
      refine ex_s (fun _ => ev_iconst dL_river_1 ic0) ?_
      refine ex_s (fun _ => ev_aload_n dL_river_2 rfl) ?_
      refine ex_s (fun _ => ev_iload_n dL_river_3 rfl) ?_
      refine ex_s (fun _ => ev_iload_n dL_river_4 rfl) ?_
      refine ex_s2 (fun Z => @ev_callVc G 20 1 _ 1 mL_river mX11_river 5 26 2 0 4 [some (.ref 0), some (.int x), some (.int y), some (.ref 125), none] [.int x, .int y] [.int (nI 0), .ref 125] w w1 "java/lang/UnsupportedOperationException" Z kL_26 co0 hB dL_river_5 rfl (by decide) (by decide) rfl [(0, 10, 13, 13), (0, 10, 17, 15), (0, 10, 21, 29)] [] (0, 10, 25, 17) rfl (hp_cons (by decide) xc_13 nc_Unsupporte_IndexOutOf (hp_cons (by decide) xc_15 nc_Unsupporte_IllegalArg (hp_cons (by decide) xc_29 nc_Unsupporte_IllegalSta hp_nil))) (by decide) (by decide) (by decide) xc_17 xt_Unsupporte 2 (Or.inr ⟨dL_river_25, rfl⟩) (by decide) rfl) ?_
      refine ex_s (fun _ => ev_iconst dL_river_27 ic4) ?_
      exact ⟨_, _, ⟨rfl, hA, fun k hk => fr_out hf hk, fun z => absurd (show (4 : Nat) = 0 from z) (by decide)⟩, ev_iret dL_river_28 rfl rfl rfl rfl⟩
theorem le_drop {A : AS} {x : Int32} : (spDrop A x).1.1 ≤ 1 := by
  unfold spDrop spCh
  split
  · exact Nat.le_of_ble_eq_true rfl
  · rw [if_neg (fun z => z rfl)]; exact Nat.le_of_ble_eq_true rfl
set_option maxRecDepth 4000 in
theorem hL_drop {G : GX} {w : WS} {A : AS} (h : aX A w) (x : Int32) : ∃ o w2, pWr (spDrop A x) w o w2 ∧ Big G 20 1 mL_drop [.ref 0, .int x, .ref 125] w o w2 := by
  obtain ⟨o, w1, ⟨ho, hA, hf⟩, hB⟩ := fX11_drop (G := G) h x
  have hle : (spDrop A x).1.1 ≤ 1 := le_drop
  generalize spDrop A x = r at ho hA hle ⊢
  obtain ⟨⟨k, v⟩, A2⟩ := r
  have hle : k ≤ 1 := hle
  rcases Nat.eq_zero_or_pos k with rfl | hk
  · have hB := big_o (show o = .inl (some (.int v)) from ho) hB
    refine bx_of (P := pWr ((0, v), A2) w) (by decide +kernel) (Nat.le_of_ble_eq_true rfl) ?_
    show Ex G 20 1 mL_drop 0 [some (.ref 0), some (.int x), some (.ref 125), none] [] w _
    refine ex_s (fun _ => ev_aload_n dL_drop_0 rfl) ?_
    refine ex_s (fun _ => ev_iconst dL_drop_1 ic0) ?_
    refine ex_s (fun _ => ev_aload_n dL_drop_2 rfl) ?_
    refine ex_s (fun _ => ev_iload_n dL_drop_3 rfl) ?_
    refine ex_s2 (fun _ => ev_callV kL_31 co0 hB dL_drop_4 rfl (by decide) (by decide) rfl) ?_
    refine ex_s (fun _ => ev_i2l dL_drop_7) ?_
    refine ex_s (fun _ => ev_lastore dL_drop_8 rfl) ?_
    refine ex_s (fun _ => ev_goto (tgt := 15) dL_drop_9 (by decide)) ?_
    refine ex_s (fun _ => ev_iconst dL_drop_15 ic0) ?_
    exact ⟨_, (w1.1, v.toInt64, w1.2.2), ⟨rfl, aX_of rfl hA, fun k hk => fr_out hf hk, fun _ => rfl⟩, ev_iret dL_drop_16 rfl rfl rfl rfl⟩
  · have hk1 : 1 ≤ k := hk
    obtain rfl : k = 1 := by omega
    skip
    have hB := big_o (show o = .inr "java/lang/IndexOutOfBoundsException" from ho) hB
    refine bx_of (P := pWr ((1, v), A2) w) (by decide +kernel) (Nat.le_of_ble_eq_true rfl) ?_
    show Ex G 20 1 mL_drop 0 [some (.ref 0), some (.int x), some (.ref 125), none] [] w _
    refine ex_s (fun _ => ev_aload_n dL_drop_0 rfl) ?_
    refine ex_s (fun _ => ev_iconst dL_drop_1 ic0) ?_
    refine ex_s (fun _ => ev_aload_n dL_drop_2 rfl) ?_
    refine ex_s (fun _ => ev_iload_n dL_drop_3 rfl) ?_
    refine ex_s2 (fun Z => @ev_callVc G 20 1 _ 1 mL_drop mX11_drop 4 31 1 0 3 [some (.ref 0), some (.int x), some (.ref 125), none] [.int x] [.int (nI 0), .ref 125] w w1 "java/lang/IndexOutOfBoundsException" Z kL_31 co0 hB dL_drop_4 rfl (by decide) (by decide) rfl [] [] (0, 9, 12, 13) rfl hp_nil (by decide) (by decide) (by decide) xc_13 xt_IndexOutOf 1 (Or.inl ⟨3, rfl, dL_drop_12, rfl⟩) (by decide) rfl) ?_
    refine ex_s (fun _ => ev_iconst dL_drop_13 ic1) ?_
    exact ⟨_, _, ⟨rfl, hA, fun k hk => fr_out hf hk, fun z => absurd (show (1 : Nat) = 0 from z) (by decide)⟩, ev_iret dL_drop_14 rfl rfl rfl rfl⟩
theorem le_dragon {A : AS} {x : Int32} {y : Int32} : (spDragon A x y).1.1 ≤ 3 := by
  unfold spDragon spCh
  (repeat' split) <;> exact Nat.le_of_ble_eq_true rfl
set_option maxRecDepth 4000 in
theorem hL_dragon {G : GX} {w : WS} {A : AS} (h : aX A w) (x : Int32) (y : Int32) : ∃ o w2, pWr (spDragon A x y) w o w2 ∧ Big G 20 1 mL_dragon [.ref 0, .int x, .int y, .ref 125] w o w2 := by
  obtain ⟨o, w1, ⟨ho, hA, hf⟩, hB⟩ := fX11_dragon (G := G) h x y
  have hle : (spDragon A x y).1.1 ≤ 3 := le_dragon
  generalize spDragon A x y = r at ho hA hle ⊢
  obtain ⟨⟨k, v⟩, A2⟩ := r
  have hle : k ≤ 3 := hle
  rcases Nat.eq_zero_or_pos k with rfl | hk
  · have hB := big_o (show o = .inl (some (.int v)) from ho) hB
    refine bx_of (P := pWr ((0, v), A2) w) (by decide +kernel) (Nat.le_of_ble_eq_true rfl) ?_
    show Ex G 20 1 mL_dragon 0 [some (.ref 0), some (.int x), some (.int y), some (.ref 125), none] [] w _
    refine ex_s (fun _ => ev_aload_n dL_dragon_0 rfl) ?_
    refine ex_s (fun _ => ev_iconst dL_dragon_1 ic0) ?_
    refine ex_s (fun _ => ev_aload_n dL_dragon_2 rfl) ?_
    refine ex_s (fun _ => ev_iload_n dL_dragon_3 rfl) ?_
    refine ex_s (fun _ => ev_iload_n dL_dragon_4 rfl) ?_
    refine ex_s2 (fun _ => ev_callV kL_34 co0 hB dL_dragon_5 rfl (by decide) (by decide) rfl) ?_
    refine ex_s (fun _ => ev_i2l dL_dragon_8) ?_
    refine ex_s (fun _ => ev_lastore dL_dragon_9 rfl) ?_
    refine ex_s (fun _ => ev_goto (tgt := 25) dL_dragon_10 (by decide)) ?_
    refine ex_s (fun _ => ev_iconst dL_dragon_25 ic0) ?_
    exact ⟨_, (w1.1, v.toInt64, w1.2.2), ⟨rfl, aX_of rfl hA, fun k hk => fr_out hf hk, fun _ => rfl⟩, ev_iret dL_dragon_26 rfl rfl rfl rfl⟩
  · have hk1 : 1 ≤ k := hk
    rcases (by omega : k = 1 ∨ k = 2 ∨ k = 3) with rfl | rfl | rfl
    · have hB := big_o (show o = .inr "java/lang/IndexOutOfBoundsException" from ho) hB
      refine bx_of (P := pWr ((1, v), A2) w) (by decide +kernel) (Nat.le_of_ble_eq_true rfl) ?_
      show Ex G 20 1 mL_dragon 0 [some (.ref 0), some (.int x), some (.int y), some (.ref 125), none] [] w _
      refine ex_s (fun _ => ev_aload_n dL_dragon_0 rfl) ?_
      refine ex_s (fun _ => ev_iconst dL_dragon_1 ic0) ?_
      refine ex_s (fun _ => ev_aload_n dL_dragon_2 rfl) ?_
      refine ex_s (fun _ => ev_iload_n dL_dragon_3 rfl) ?_
      refine ex_s (fun _ => ev_iload_n dL_dragon_4 rfl) ?_
      refine ex_s2 (fun Z => @ev_callVc G 20 1 _ 1 mL_dragon mX11_dragon 5 34 2 0 4 [some (.ref 0), some (.int x), some (.int y), some (.ref 125), none] [.int x, .int y] [.int (nI 0), .ref 125] w w1 "java/lang/IndexOutOfBoundsException" Z kL_34 co0 hB dL_dragon_5 rfl (by decide) (by decide) rfl [] [(0, 10, 17, 15), (0, 10, 21, 17)] (0, 10, 13, 13) rfl hp_nil (by decide) (by decide) (by decide) xc_13 xt_IndexOutOf 2 (Or.inr ⟨dL_dragon_13, rfl⟩) (by decide) rfl) ?_
      refine ex_s (fun _ => ev_iconst dL_dragon_15 ic1) ?_
      exact ⟨_, _, ⟨rfl, hA, fun k hk => fr_out hf hk, fun z => absurd (show (1 : Nat) = 0 from z) (by decide)⟩, ev_iret dL_dragon_16 rfl rfl rfl rfl⟩
    · have hB := big_o (show o = .inr "java/lang/IllegalArgumentException" from ho) hB
      refine bx_of (P := pWr ((2, v), A2) w) (by decide +kernel) (Nat.le_of_ble_eq_true rfl) ?_
      show Ex G 20 1 mL_dragon 0 [some (.ref 0), some (.int x), some (.int y), some (.ref 125), none] [] w _
      refine ex_s (fun _ => ev_aload_n dL_dragon_0 rfl) ?_
      refine ex_s (fun _ => ev_iconst dL_dragon_1 ic0) ?_
      refine ex_s (fun _ => ev_aload_n dL_dragon_2 rfl) ?_
      refine ex_s (fun _ => ev_iload_n dL_dragon_3 rfl) ?_
      refine ex_s (fun _ => ev_iload_n dL_dragon_4 rfl) ?_
      refine ex_s2 (fun Z => @ev_callVc G 20 1 _ 1 mL_dragon mX11_dragon 5 34 2 0 4 [some (.ref 0), some (.int x), some (.int y), some (.ref 125), none] [.int x, .int y] [.int (nI 0), .ref 125] w w1 "java/lang/IllegalArgumentException" Z kL_34 co0 hB dL_dragon_5 rfl (by decide) (by decide) rfl [(0, 10, 13, 13)] [(0, 10, 21, 17)] (0, 10, 17, 15) rfl (hp_cons (by decide) xc_13 nc_IllegalArg_IndexOutOf hp_nil) (by decide) (by decide) (by decide) xc_15 xt_IllegalArg 2 (Or.inr ⟨dL_dragon_17, rfl⟩) (by decide) rfl) ?_
      refine ex_s (fun _ => ev_iconst dL_dragon_19 ic2) ?_
      exact ⟨_, _, ⟨rfl, hA, fun k hk => fr_out hf hk, fun z => absurd (show (2 : Nat) = 0 from z) (by decide)⟩, ev_iret dL_dragon_20 rfl rfl rfl rfl⟩
    · have hB := big_o (show o = .inr "java/lang/UnsupportedOperationException" from ho) hB
      refine bx_of (P := pWr ((3, v), A2) w) (by decide +kernel) (Nat.le_of_ble_eq_true rfl) ?_
      show Ex G 20 1 mL_dragon 0 [some (.ref 0), some (.int x), some (.int y), some (.ref 125), none] [] w _
      refine ex_s (fun _ => ev_aload_n dL_dragon_0 rfl) ?_
      refine ex_s (fun _ => ev_iconst dL_dragon_1 ic0) ?_
      refine ex_s (fun _ => ev_aload_n dL_dragon_2 rfl) ?_
      refine ex_s (fun _ => ev_iload_n dL_dragon_3 rfl) ?_
      refine ex_s (fun _ => ev_iload_n dL_dragon_4 rfl) ?_
      refine ex_s2 (fun Z => @ev_callVc G 20 1 _ 1 mL_dragon mX11_dragon 5 34 2 0 4 [some (.ref 0), some (.int x), some (.int y), some (.ref 125), none] [.int x, .int y] [.int (nI 0), .ref 125] w w1 "java/lang/UnsupportedOperationException" Z kL_34 co0 hB dL_dragon_5 rfl (by decide) (by decide) rfl [(0, 10, 13, 13), (0, 10, 17, 15)] [] (0, 10, 21, 17) rfl (hp_cons (by decide) xc_13 nc_Unsupporte_IndexOutOf (hp_cons (by decide) xc_15 nc_Unsupporte_IllegalArg hp_nil)) (by decide) (by decide) (by decide) xc_17 xt_Unsupporte 2 (Or.inr ⟨dL_dragon_21, rfl⟩) (by decide) rfl) ?_
      refine ex_s (fun _ => ev_iconst dL_dragon_23 ic3) ?_
      exact ⟨_, _, ⟨rfl, hA, fun k hk => fr_out hf hk, fun z => absurd (show (3 : Nat) = 0 from z) (by decide)⟩, ev_iret dL_dragon_24 rfl rfl rfl rfl⟩
theorem le_scare {A : AS} {x : Int32} : (spScare A x).1.1 ≤ 1 := by
  unfold spScare spCh
  split
  · exact Nat.le_of_ble_eq_true rfl
  · rw [if_neg (fun z => z rfl)]; exact Nat.le_of_ble_eq_true rfl
set_option maxRecDepth 4000 in
theorem hL_scare {G : GX} {w : WS} {A : AS} (h : aX A w) (x : Int32) : ∃ o w2, pWr (spScare A x) w o w2 ∧ Big G 20 1 mL_scare [.ref 0, .int x, .ref 125] w o w2 := by
  obtain ⟨o, w1, ⟨ho, hA, hf⟩, hB⟩ := fX11_scare (G := G) h x
  have hle : (spScare A x).1.1 ≤ 1 := le_scare
  generalize spScare A x = r at ho hA hle ⊢
  obtain ⟨⟨k, v⟩, A2⟩ := r
  have hle : k ≤ 1 := hle
  rcases Nat.eq_zero_or_pos k with rfl | hk
  · have hB := big_o (show o = .inl (some (.int v)) from ho) hB
    refine bx_of (P := pWr ((0, v), A2) w) (by decide +kernel) (Nat.le_of_ble_eq_true rfl) ?_
    show Ex G 20 1 mL_scare 0 [some (.ref 0), some (.int x), some (.ref 125), none] [] w _
    refine ex_s (fun _ => ev_aload_n dL_scare_0 rfl) ?_
    refine ex_s (fun _ => ev_iconst dL_scare_1 ic0) ?_
    refine ex_s (fun _ => ev_aload_n dL_scare_2 rfl) ?_
    refine ex_s (fun _ => ev_iload_n dL_scare_3 rfl) ?_
    refine ex_s2 (fun _ => ev_callV kL_37 co0 hB dL_scare_4 rfl (by decide) (by decide) rfl) ?_
    refine ex_s (fun _ => ev_i2l dL_scare_7) ?_
    refine ex_s (fun _ => ev_lastore dL_scare_8 rfl) ?_
    refine ex_s (fun _ => ev_goto (tgt := 15) dL_scare_9 (by decide)) ?_
    refine ex_s (fun _ => ev_iconst dL_scare_15 ic0) ?_
    exact ⟨_, (w1.1, v.toInt64, w1.2.2), ⟨rfl, aX_of rfl hA, fun k hk => fr_out hf hk, fun _ => rfl⟩, ev_iret dL_scare_16 rfl rfl rfl rfl⟩
  · have hk1 : 1 ≤ k := hk
    obtain rfl : k = 1 := by omega
    skip
    have hB := big_o (show o = .inr "java/lang/IndexOutOfBoundsException" from ho) hB
    refine bx_of (P := pWr ((1, v), A2) w) (by decide +kernel) (Nat.le_of_ble_eq_true rfl) ?_
    show Ex G 20 1 mL_scare 0 [some (.ref 0), some (.int x), some (.ref 125), none] [] w _
    refine ex_s (fun _ => ev_aload_n dL_scare_0 rfl) ?_
    refine ex_s (fun _ => ev_iconst dL_scare_1 ic0) ?_
    refine ex_s (fun _ => ev_aload_n dL_scare_2 rfl) ?_
    refine ex_s (fun _ => ev_iload_n dL_scare_3 rfl) ?_
    refine ex_s2 (fun Z => @ev_callVc G 20 1 _ 1 mL_scare mX11_scare 4 37 1 0 3 [some (.ref 0), some (.int x), some (.ref 125), none] [.int x] [.int (nI 0), .ref 125] w w1 "java/lang/IndexOutOfBoundsException" Z kL_37 co0 hB dL_scare_4 rfl (by decide) (by decide) rfl [] [] (0, 9, 12, 13) rfl hp_nil (by decide) (by decide) (by decide) xc_13 xt_IndexOutOf 1 (Or.inl ⟨3, rfl, dL_scare_12, rfl⟩) (by decide) rfl) ?_
    refine ex_s (fun _ => ev_iconst dL_scare_13 ic1) ?_
    exact ⟨_, _, ⟨rfl, hA, fun k hk => fr_out hf hk, fun z => absurd (show (1 : Nat) = 0 from z) (by decide)⟩, ev_iret dL_scare_14 rfl rfl rfl rfl⟩
theorem le_realmAt {A : AS} {x : Int32} : ((qAt (aS A) x, A)).1.1 ≤ 1 := by
  show (qAt (aS A) x).1 ≤ 1
  unfold qAt
  (repeat' split) <;> exact Nat.le_of_ble_eq_true rfl
set_option maxRecDepth 4000 in
theorem hL_realmAt {G : GX} {w : WS} {A : AS} (h : aX A w) (x : Int32) : ∃ o w2, pWr ((qAt (aS A) x, A)) w o w2 ∧ Big G 20 1 mL_realmAt [.ref 0, .int x, .ref 125] w o w2 := by
  obtain ⟨o, w1, ⟨ho, hA, hf⟩, hB⟩ := fX11_realmAt (G := G) h x
  have hle : ((qAt (aS A) x, A)).1.1 ≤ 1 := le_realmAt
  generalize (qAt (aS A) x, A) = r at ho hA hle ⊢
  obtain ⟨⟨k, v⟩, A2⟩ := r
  have hle : k ≤ 1 := hle
  rcases Nat.eq_zero_or_pos k with rfl | hk
  · have hB := big_o (show o = .inl (some (.int v)) from ho) hB
    refine bx_of (P := pWr ((0, v), A2) w) (by decide +kernel) (Nat.le_of_ble_eq_true rfl) ?_
    show Ex G 20 1 mL_realmAt 0 [some (.ref 0), some (.int x), some (.ref 125), none] [] w _
    refine ex_s (fun _ => ev_aload_n dL_realmAt_0 rfl) ?_
    refine ex_s (fun _ => ev_iconst dL_realmAt_1 ic0) ?_
    refine ex_s (fun _ => ev_aload_n dL_realmAt_2 rfl) ?_
    refine ex_s (fun _ => ev_iload_n dL_realmAt_3 rfl) ?_
    refine ex_s2 (fun _ => ev_callV kL_40 co0 hB dL_realmAt_4 rfl (by decide) (by decide) rfl) ?_
    refine ex_s (fun _ => ev_i2l dL_realmAt_7) ?_
    refine ex_s (fun _ => ev_lastore dL_realmAt_8 rfl) ?_
    refine ex_s (fun _ => ev_goto (tgt := 15) dL_realmAt_9 (by decide)) ?_
    refine ex_s (fun _ => ev_iconst dL_realmAt_15 ic0) ?_
    exact ⟨_, (w1.1, v.toInt64, w1.2.2), ⟨rfl, aX_of rfl hA, fun k hk => fr_out hf hk, fun _ => rfl⟩, ev_iret dL_realmAt_16 rfl rfl rfl rfl⟩
  · have hk1 : 1 ≤ k := hk
    obtain rfl : k = 1 := by omega
    skip
    have hB := big_o (show o = .inr "java/lang/IndexOutOfBoundsException" from ho) hB
    refine bx_of (P := pWr ((1, v), A2) w) (by decide +kernel) (Nat.le_of_ble_eq_true rfl) ?_
    show Ex G 20 1 mL_realmAt 0 [some (.ref 0), some (.int x), some (.ref 125), none] [] w _
    refine ex_s (fun _ => ev_aload_n dL_realmAt_0 rfl) ?_
    refine ex_s (fun _ => ev_iconst dL_realmAt_1 ic0) ?_
    refine ex_s (fun _ => ev_aload_n dL_realmAt_2 rfl) ?_
    refine ex_s (fun _ => ev_iload_n dL_realmAt_3 rfl) ?_
    refine ex_s2 (fun Z => @ev_callVc G 20 1 _ 1 mL_realmAt mX11_realmAt 4 40 1 0 3 [some (.ref 0), some (.int x), some (.ref 125), none] [.int x] [.int (nI 0), .ref 125] w w1 "java/lang/IndexOutOfBoundsException" Z kL_40 co0 hB dL_realmAt_4 rfl (by decide) (by decide) rfl [] [] (0, 9, 12, 13) rfl hp_nil (by decide) (by decide) (by decide) xc_13 xt_IndexOutOf 1 (Or.inl ⟨3, rfl, dL_realmAt_12, rfl⟩) (by decide) rfl) ?_
    refine ex_s (fun _ => ev_iconst dL_realmAt_13 ic1) ?_
    exact ⟨_, _, ⟨rfl, hA, fun k hk => fr_out hf hk, fun z => absurd (show (1 : Nat) = 0 from z) (by decide)⟩, ev_iret dL_realmAt_14 rfl rfl rfl rfl⟩
theorem le_realmOf {A : AS} {x : Int32} {y : Int32} : ((qRo (aS A) x y, A)).1.1 ≤ 2 := by
  show (qRo (aS A) x y).1 ≤ 2
  unfold qRo
  (repeat' split) <;> exact Nat.le_of_ble_eq_true rfl
set_option maxRecDepth 4000 in
theorem hL_realmOf {G : GX} {w : WS} {A : AS} (h : aX A w) (x : Int32) (y : Int32) : ∃ o w2, pWr ((qRo (aS A) x y, A)) w o w2 ∧ Big G 20 1 mL_realmOf [.ref 0, .int x, .int y, .ref 125] w o w2 := by
  obtain ⟨o, w1, ⟨ho, hA, hf⟩, hB⟩ := fX11_realmOf (G := G) h x y
  have hle : ((qRo (aS A) x y, A)).1.1 ≤ 2 := le_realmOf
  generalize (qRo (aS A) x y, A) = r at ho hA hle ⊢
  obtain ⟨⟨k, v⟩, A2⟩ := r
  have hle : k ≤ 2 := hle
  rcases Nat.eq_zero_or_pos k with rfl | hk
  · have hB := big_o (show o = .inl (some (.int v)) from ho) hB
    refine bx_of (P := pWr ((0, v), A2) w) (by decide +kernel) (Nat.le_of_ble_eq_true rfl) ?_
    show Ex G 20 1 mL_realmOf 0 [some (.ref 0), some (.int x), some (.int y), some (.ref 125), none] [] w _
    refine ex_s (fun _ => ev_aload_n dL_realmOf_0 rfl) ?_
    refine ex_s (fun _ => ev_iconst dL_realmOf_1 ic0) ?_
    refine ex_s (fun _ => ev_aload_n dL_realmOf_2 rfl) ?_
    refine ex_s (fun _ => ev_iload_n dL_realmOf_3 rfl) ?_
    refine ex_s (fun _ => ev_iload_n dL_realmOf_4 rfl) ?_
    refine ex_s2 (fun _ => ev_callV kL_43 co0 hB dL_realmOf_5 rfl (by decide) (by decide) rfl) ?_
    refine ex_s (fun _ => ev_i2l dL_realmOf_8) ?_
    refine ex_s (fun _ => ev_lastore dL_realmOf_9 rfl) ?_
    refine ex_s (fun _ => ev_goto (tgt := 21) dL_realmOf_10 (by decide)) ?_
    refine ex_s (fun _ => ev_iconst dL_realmOf_21 ic0) ?_
    exact ⟨_, (w1.1, v.toInt64, w1.2.2), ⟨rfl, aX_of rfl hA, fun k hk => fr_out hf hk, fun _ => rfl⟩, ev_iret dL_realmOf_22 rfl rfl rfl rfl⟩
  · have hk1 : 1 ≤ k := hk
    rcases (by omega : k = 1 ∨ k = 2) with rfl | rfl
    · have hB := big_o (show o = .inr "java/lang/IndexOutOfBoundsException" from ho) hB
      refine bx_of (P := pWr ((1, v), A2) w) (by decide +kernel) (Nat.le_of_ble_eq_true rfl) ?_
      show Ex G 20 1 mL_realmOf 0 [some (.ref 0), some (.int x), some (.int y), some (.ref 125), none] [] w _
      refine ex_s (fun _ => ev_aload_n dL_realmOf_0 rfl) ?_
      refine ex_s (fun _ => ev_iconst dL_realmOf_1 ic0) ?_
      refine ex_s (fun _ => ev_aload_n dL_realmOf_2 rfl) ?_
      refine ex_s (fun _ => ev_iload_n dL_realmOf_3 rfl) ?_
      refine ex_s (fun _ => ev_iload_n dL_realmOf_4 rfl) ?_
      refine ex_s2 (fun Z => @ev_callVc G 20 1 _ 1 mL_realmOf mX11_realmOf 5 43 2 0 4 [some (.ref 0), some (.int x), some (.int y), some (.ref 125), none] [.int x, .int y] [.int (nI 0), .ref 125] w w1 "java/lang/IndexOutOfBoundsException" Z kL_43 co0 hB dL_realmOf_5 rfl (by decide) (by decide) rfl [] [(0, 10, 17, 15)] (0, 10, 13, 13) rfl hp_nil (by decide) (by decide) (by decide) xc_13 xt_IndexOutOf 2 (Or.inr ⟨dL_realmOf_13, rfl⟩) (by decide) rfl) ?_
      refine ex_s (fun _ => ev_iconst dL_realmOf_15 ic1) ?_
      exact ⟨_, _, ⟨rfl, hA, fun k hk => fr_out hf hk, fun z => absurd (show (1 : Nat) = 0 from z) (by decide)⟩, ev_iret dL_realmOf_16 rfl rfl rfl rfl⟩
    · have hB := big_o (show o = .inr "java/lang/IllegalArgumentException" from ho) hB
      refine bx_of (P := pWr ((2, v), A2) w) (by decide +kernel) (Nat.le_of_ble_eq_true rfl) ?_
      show Ex G 20 1 mL_realmOf 0 [some (.ref 0), some (.int x), some (.int y), some (.ref 125), none] [] w _
      refine ex_s (fun _ => ev_aload_n dL_realmOf_0 rfl) ?_
      refine ex_s (fun _ => ev_iconst dL_realmOf_1 ic0) ?_
      refine ex_s (fun _ => ev_aload_n dL_realmOf_2 rfl) ?_
      refine ex_s (fun _ => ev_iload_n dL_realmOf_3 rfl) ?_
      refine ex_s (fun _ => ev_iload_n dL_realmOf_4 rfl) ?_
      refine ex_s2 (fun Z => @ev_callVc G 20 1 _ 1 mL_realmOf mX11_realmOf 5 43 2 0 4 [some (.ref 0), some (.int x), some (.int y), some (.ref 125), none] [.int x, .int y] [.int (nI 0), .ref 125] w w1 "java/lang/IllegalArgumentException" Z kL_43 co0 hB dL_realmOf_5 rfl (by decide) (by decide) rfl [(0, 10, 13, 13)] [] (0, 10, 17, 15) rfl (hp_cons (by decide) xc_13 nc_IllegalArg_IndexOutOf hp_nil) (by decide) (by decide) (by decide) xc_15 xt_IllegalArg 2 (Or.inr ⟨dL_realmOf_17, rfl⟩) (by decide) rfl) ?_
      refine ex_s (fun _ => ev_iconst dL_realmOf_19 ic2) ?_
      exact ⟨_, _, ⟨rfl, hA, fun k hk => fr_out hf hk, fun z => absurd (show (2 : Nat) = 0 from z) (by decide)⟩, ev_iret dL_realmOf_20 rfl rfl rfl rfl⟩
theorem le_riverOf {A : AS} {x : Int32} {y : Int32} : ((qRv (aS A) x y, A)).1.1 ≤ 2 := by
  show (qRv (aS A) x y).1 ≤ 2
  unfold qRv
  (repeat' split) <;> exact Nat.le_of_ble_eq_true rfl
set_option maxRecDepth 4000 in
theorem hL_riverOf {G : GX} {w : WS} {A : AS} (h : aX A w) (x : Int32) (y : Int32) : ∃ o w2, pWr ((qRv (aS A) x y, A)) w o w2 ∧ Big G 20 1 mL_riverOf [.ref 0, .int x, .int y, .ref 125] w o w2 := by
  obtain ⟨o, w1, ⟨ho, hA, hf⟩, hB⟩ := fX11_riverOf (G := G) h x y
  have hle : ((qRv (aS A) x y, A)).1.1 ≤ 2 := le_riverOf
  generalize (qRv (aS A) x y, A) = r at ho hA hle ⊢
  obtain ⟨⟨k, v⟩, A2⟩ := r
  have hle : k ≤ 2 := hle
  rcases Nat.eq_zero_or_pos k with rfl | hk
  · have hB := big_o (show o = .inl (some (.int v)) from ho) hB
    refine bx_of (P := pWr ((0, v), A2) w) (by decide +kernel) (Nat.le_of_ble_eq_true rfl) ?_
    show Ex G 20 1 mL_riverOf 0 [some (.ref 0), some (.int x), some (.int y), some (.ref 125), none] [] w _
    refine ex_s (fun _ => ev_aload_n dL_riverOf_0 rfl) ?_
    refine ex_s (fun _ => ev_iconst dL_riverOf_1 ic0) ?_
    refine ex_s (fun _ => ev_aload_n dL_riverOf_2 rfl) ?_
    refine ex_s (fun _ => ev_iload_n dL_riverOf_3 rfl) ?_
    refine ex_s (fun _ => ev_iload_n dL_riverOf_4 rfl) ?_
    refine ex_s2 (fun _ => ev_callV kL_46 co0 hB dL_riverOf_5 rfl (by decide) (by decide) rfl) ?_
    refine ex_s (fun _ => ev_i2l dL_riverOf_8) ?_
    refine ex_s (fun _ => ev_lastore dL_riverOf_9 rfl) ?_
    refine ex_s (fun _ => ev_goto (tgt := 21) dL_riverOf_10 (by decide)) ?_
    refine ex_s (fun _ => ev_iconst dL_riverOf_21 ic0) ?_
    exact ⟨_, (w1.1, v.toInt64, w1.2.2), ⟨rfl, aX_of rfl hA, fun k hk => fr_out hf hk, fun _ => rfl⟩, ev_iret dL_riverOf_22 rfl rfl rfl rfl⟩
  · have hk1 : 1 ≤ k := hk
    rcases (by omega : k = 1 ∨ k = 2) with rfl | rfl
    · have hB := big_o (show o = .inr "java/lang/IndexOutOfBoundsException" from ho) hB
      refine bx_of (P := pWr ((1, v), A2) w) (by decide +kernel) (Nat.le_of_ble_eq_true rfl) ?_
      show Ex G 20 1 mL_riverOf 0 [some (.ref 0), some (.int x), some (.int y), some (.ref 125), none] [] w _
      refine ex_s (fun _ => ev_aload_n dL_riverOf_0 rfl) ?_
      refine ex_s (fun _ => ev_iconst dL_riverOf_1 ic0) ?_
      refine ex_s (fun _ => ev_aload_n dL_riverOf_2 rfl) ?_
      refine ex_s (fun _ => ev_iload_n dL_riverOf_3 rfl) ?_
      refine ex_s (fun _ => ev_iload_n dL_riverOf_4 rfl) ?_
      refine ex_s2 (fun Z => @ev_callVc G 20 1 _ 1 mL_riverOf mX11_riverOf 5 46 2 0 4 [some (.ref 0), some (.int x), some (.int y), some (.ref 125), none] [.int x, .int y] [.int (nI 0), .ref 125] w w1 "java/lang/IndexOutOfBoundsException" Z kL_46 co0 hB dL_riverOf_5 rfl (by decide) (by decide) rfl [] [(0, 10, 17, 15)] (0, 10, 13, 13) rfl hp_nil (by decide) (by decide) (by decide) xc_13 xt_IndexOutOf 2 (Or.inr ⟨dL_riverOf_13, rfl⟩) (by decide) rfl) ?_
      refine ex_s (fun _ => ev_iconst dL_riverOf_15 ic1) ?_
      exact ⟨_, _, ⟨rfl, hA, fun k hk => fr_out hf hk, fun z => absurd (show (1 : Nat) = 0 from z) (by decide)⟩, ev_iret dL_riverOf_16 rfl rfl rfl rfl⟩
    · have hB := big_o (show o = .inr "java/lang/IllegalArgumentException" from ho) hB
      refine bx_of (P := pWr ((2, v), A2) w) (by decide +kernel) (Nat.le_of_ble_eq_true rfl) ?_
      show Ex G 20 1 mL_riverOf 0 [some (.ref 0), some (.int x), some (.int y), some (.ref 125), none] [] w _
      refine ex_s (fun _ => ev_aload_n dL_riverOf_0 rfl) ?_
      refine ex_s (fun _ => ev_iconst dL_riverOf_1 ic0) ?_
      refine ex_s (fun _ => ev_aload_n dL_riverOf_2 rfl) ?_
      refine ex_s (fun _ => ev_iload_n dL_riverOf_3 rfl) ?_
      refine ex_s (fun _ => ev_iload_n dL_riverOf_4 rfl) ?_
      refine ex_s2 (fun Z => @ev_callVc G 20 1 _ 1 mL_riverOf mX11_riverOf 5 46 2 0 4 [some (.ref 0), some (.int x), some (.int y), some (.ref 125), none] [.int x, .int y] [.int (nI 0), .ref 125] w w1 "java/lang/IllegalArgumentException" Z kL_46 co0 hB dL_riverOf_5 rfl (by decide) (by decide) rfl [(0, 10, 13, 13)] [] (0, 10, 17, 15) rfl (hp_cons (by decide) xc_13 nc_IllegalArg_IndexOutOf hp_nil) (by decide) (by decide) (by decide) xc_15 xt_IllegalArg 2 (Or.inr ⟨dL_riverOf_17, rfl⟩) (by decide) rfl) ?_
      refine ex_s (fun _ => ev_iconst dL_riverOf_19 ic2) ?_
      exact ⟨_, _, ⟨rfl, hA, fun k hk => fr_out hf hk, fun z => absurd (show (2 : Nat) = 0 from z) (by decide)⟩, ev_iret dL_riverOf_20 rfl rfl rfl rfl⟩
theorem le_riverAt {A : AS} {x : Int32} {y : Int32} : ((qRa (aS A) x y, A)).1.1 ≤ 2 := by
  show (qRa (aS A) x y).1 ≤ 2
  unfold qRa
  (repeat' split) <;> exact Nat.le_of_ble_eq_true rfl
set_option maxRecDepth 4000 in
theorem hL_riverAt {G : GX} {w : WS} {A : AS} (h : aX A w) (x : Int32) (y : Int32) : ∃ o w2, pWr ((qRa (aS A) x y, A)) w o w2 ∧ Big G 20 1 mL_riverAt [.ref 0, .int x, .int y, .ref 125] w o w2 := by
  obtain ⟨o, w1, ⟨ho, hA, hf⟩, hB⟩ := fX11_riverAt (G := G) h x y
  have hle : ((qRa (aS A) x y, A)).1.1 ≤ 2 := le_riverAt
  generalize (qRa (aS A) x y, A) = r at ho hA hle ⊢
  obtain ⟨⟨k, v⟩, A2⟩ := r
  have hle : k ≤ 2 := hle
  rcases Nat.eq_zero_or_pos k with rfl | hk
  · have hB := big_o (show o = .inl (some (.int v)) from ho) hB
    refine bx_of (P := pWr ((0, v), A2) w) (by decide +kernel) (Nat.le_of_ble_eq_true rfl) ?_
    show Ex G 20 1 mL_riverAt 0 [some (.ref 0), some (.int x), some (.int y), some (.ref 125), none] [] w _
    refine ex_s (fun _ => ev_aload_n dL_riverAt_0 rfl) ?_
    refine ex_s (fun _ => ev_iconst dL_riverAt_1 ic0) ?_
    refine ex_s (fun _ => ev_aload_n dL_riverAt_2 rfl) ?_
    refine ex_s (fun _ => ev_iload_n dL_riverAt_3 rfl) ?_
    refine ex_s (fun _ => ev_iload_n dL_riverAt_4 rfl) ?_
    refine ex_s2 (fun _ => ev_callV kL_49 co0 hB dL_riverAt_5 rfl (by decide) (by decide) rfl) ?_
    refine ex_s (fun _ => ev_i2l dL_riverAt_8) ?_
    refine ex_s (fun _ => ev_lastore dL_riverAt_9 rfl) ?_
    refine ex_s (fun _ => ev_goto (tgt := 21) dL_riverAt_10 (by decide)) ?_
    refine ex_s (fun _ => ev_iconst dL_riverAt_21 ic0) ?_
    exact ⟨_, (w1.1, v.toInt64, w1.2.2), ⟨rfl, aX_of rfl hA, fun k hk => fr_out hf hk, fun _ => rfl⟩, ev_iret dL_riverAt_22 rfl rfl rfl rfl⟩
  · have hk1 : 1 ≤ k := hk
    rcases (by omega : k = 1 ∨ k = 2) with rfl | rfl
    · have hB := big_o (show o = .inr "java/lang/IndexOutOfBoundsException" from ho) hB
      refine bx_of (P := pWr ((1, v), A2) w) (by decide +kernel) (Nat.le_of_ble_eq_true rfl) ?_
      show Ex G 20 1 mL_riverAt 0 [some (.ref 0), some (.int x), some (.int y), some (.ref 125), none] [] w _
      refine ex_s (fun _ => ev_aload_n dL_riverAt_0 rfl) ?_
      refine ex_s (fun _ => ev_iconst dL_riverAt_1 ic0) ?_
      refine ex_s (fun _ => ev_aload_n dL_riverAt_2 rfl) ?_
      refine ex_s (fun _ => ev_iload_n dL_riverAt_3 rfl) ?_
      refine ex_s (fun _ => ev_iload_n dL_riverAt_4 rfl) ?_
      refine ex_s2 (fun Z => @ev_callVc G 20 1 _ 1 mL_riverAt mX11_riverAt 5 49 2 0 4 [some (.ref 0), some (.int x), some (.int y), some (.ref 125), none] [.int x, .int y] [.int (nI 0), .ref 125] w w1 "java/lang/IndexOutOfBoundsException" Z kL_49 co0 hB dL_riverAt_5 rfl (by decide) (by decide) rfl [] [(0, 10, 17, 52)] (0, 10, 13, 13) rfl hp_nil (by decide) (by decide) (by decide) xc_13 xt_IndexOutOf 2 (Or.inr ⟨dL_riverAt_13, rfl⟩) (by decide) rfl) ?_
      refine ex_s (fun _ => ev_iconst dL_riverAt_15 ic1) ?_
      exact ⟨_, _, ⟨rfl, hA, fun k hk => fr_out hf hk, fun z => absurd (show (1 : Nat) = 0 from z) (by decide)⟩, ev_iret dL_riverAt_16 rfl rfl rfl rfl⟩
    · have hB := big_o (show o = .inr "java/util/NoSuchElementException" from ho) hB
      refine bx_of (P := pWr ((2, v), A2) w) (by decide +kernel) (Nat.le_of_ble_eq_true rfl) ?_
      show Ex G 20 1 mL_riverAt 0 [some (.ref 0), some (.int x), some (.int y), some (.ref 125), none] [] w _
      refine ex_s (fun _ => ev_aload_n dL_riverAt_0 rfl) ?_
      refine ex_s (fun _ => ev_iconst dL_riverAt_1 ic0) ?_
      refine ex_s (fun _ => ev_aload_n dL_riverAt_2 rfl) ?_
      refine ex_s (fun _ => ev_iload_n dL_riverAt_3 rfl) ?_
      refine ex_s (fun _ => ev_iload_n dL_riverAt_4 rfl) ?_
      refine ex_s2 (fun Z => @ev_callVc G 20 1 _ 1 mL_riverAt mX11_riverAt 5 49 2 0 4 [some (.ref 0), some (.int x), some (.int y), some (.ref 125), none] [.int x, .int y] [.int (nI 0), .ref 125] w w1 "java/util/NoSuchElementException" Z kL_49 co0 hB dL_riverAt_5 rfl (by decide) (by decide) rfl [(0, 10, 13, 13)] [] (0, 10, 17, 52) rfl (hp_cons (by decide) xc_13 nc_NoSuchElem_IndexOutOf hp_nil) (by decide) (by decide) (by decide) xc_52 xt_NoSuchElem 2 (Or.inr ⟨dL_riverAt_17, rfl⟩) (by decide) rfl) ?_
      refine ex_s (fun _ => ev_iconst dL_riverAt_19 ic2) ?_
      exact ⟨_, _, ⟨rfl, hA, fun k hk => fr_out hf hk, fun z => absurd (show (2 : Nat) = 0 from z) (by decide)⟩, ev_iret dL_riverAt_20 rfl rfl rfl rfl⟩
theorem le_dragonOf {A : AS} {x : Int32} {y : Int32} : ((qDr (aS A) x y, A)).1.1 ≤ 2 := by
  show (qDr (aS A) x y).1 ≤ 2
  unfold qDr
  (repeat' split) <;> exact Nat.le_of_ble_eq_true rfl
set_option maxRecDepth 4000 in
theorem hL_dragonOf {G : GX} {w : WS} {A : AS} (h : aX A w) (x : Int32) (y : Int32) : ∃ o w2, pWr ((qDr (aS A) x y, A)) w o w2 ∧ Big G 20 1 mL_dragonOf [.ref 0, .int x, .int y, .ref 125] w o w2 := by
  obtain ⟨o, w1, ⟨ho, hA, hf⟩, hB⟩ := fX11_dragonOf (G := G) h x y
  have hle : ((qDr (aS A) x y, A)).1.1 ≤ 2 := le_dragonOf
  generalize (qDr (aS A) x y, A) = r at ho hA hle ⊢
  obtain ⟨⟨k, v⟩, A2⟩ := r
  have hle : k ≤ 2 := hle
  rcases Nat.eq_zero_or_pos k with rfl | hk
  · have hB := big_o (show o = .inl (some (.int v)) from ho) hB
    refine bx_of (P := pWr ((0, v), A2) w) (by decide +kernel) (Nat.le_of_ble_eq_true rfl) ?_
    show Ex G 20 1 mL_dragonOf 0 [some (.ref 0), some (.int x), some (.int y), some (.ref 125), none] [] w _
    refine ex_s (fun _ => ev_aload_n dL_dragonOf_0 rfl) ?_
    refine ex_s (fun _ => ev_iconst dL_dragonOf_1 ic0) ?_
    refine ex_s (fun _ => ev_aload_n dL_dragonOf_2 rfl) ?_
    refine ex_s (fun _ => ev_iload_n dL_dragonOf_3 rfl) ?_
    refine ex_s (fun _ => ev_iload_n dL_dragonOf_4 rfl) ?_
    refine ex_s2 (fun _ => ev_callV kL_54 co0 hB dL_dragonOf_5 rfl (by decide) (by decide) rfl) ?_
    refine ex_s (fun _ => ev_i2l dL_dragonOf_8) ?_
    refine ex_s (fun _ => ev_lastore dL_dragonOf_9 rfl) ?_
    refine ex_s (fun _ => ev_goto (tgt := 21) dL_dragonOf_10 (by decide)) ?_
    refine ex_s (fun _ => ev_iconst dL_dragonOf_21 ic0) ?_
    exact ⟨_, (w1.1, v.toInt64, w1.2.2), ⟨rfl, aX_of rfl hA, fun k hk => fr_out hf hk, fun _ => rfl⟩, ev_iret dL_dragonOf_22 rfl rfl rfl rfl⟩
  · have hk1 : 1 ≤ k := hk
    rcases (by omega : k = 1 ∨ k = 2) with rfl | rfl
    · have hB := big_o (show o = .inr "java/lang/IndexOutOfBoundsException" from ho) hB
      refine bx_of (P := pWr ((1, v), A2) w) (by decide +kernel) (Nat.le_of_ble_eq_true rfl) ?_
      show Ex G 20 1 mL_dragonOf 0 [some (.ref 0), some (.int x), some (.int y), some (.ref 125), none] [] w _
      refine ex_s (fun _ => ev_aload_n dL_dragonOf_0 rfl) ?_
      refine ex_s (fun _ => ev_iconst dL_dragonOf_1 ic0) ?_
      refine ex_s (fun _ => ev_aload_n dL_dragonOf_2 rfl) ?_
      refine ex_s (fun _ => ev_iload_n dL_dragonOf_3 rfl) ?_
      refine ex_s (fun _ => ev_iload_n dL_dragonOf_4 rfl) ?_
      refine ex_s2 (fun Z => @ev_callVc G 20 1 _ 1 mL_dragonOf mX11_dragonOf 5 54 2 0 4 [some (.ref 0), some (.int x), some (.int y), some (.ref 125), none] [.int x, .int y] [.int (nI 0), .ref 125] w w1 "java/lang/IndexOutOfBoundsException" Z kL_54 co0 hB dL_dragonOf_5 rfl (by decide) (by decide) rfl [] [(0, 10, 17, 15)] (0, 10, 13, 13) rfl hp_nil (by decide) (by decide) (by decide) xc_13 xt_IndexOutOf 2 (Or.inr ⟨dL_dragonOf_13, rfl⟩) (by decide) rfl) ?_
      refine ex_s (fun _ => ev_iconst dL_dragonOf_15 ic1) ?_
      exact ⟨_, _, ⟨rfl, hA, fun k hk => fr_out hf hk, fun z => absurd (show (1 : Nat) = 0 from z) (by decide)⟩, ev_iret dL_dragonOf_16 rfl rfl rfl rfl⟩
    · have hB := big_o (show o = .inr "java/lang/IllegalArgumentException" from ho) hB
      refine bx_of (P := pWr ((2, v), A2) w) (by decide +kernel) (Nat.le_of_ble_eq_true rfl) ?_
      show Ex G 20 1 mL_dragonOf 0 [some (.ref 0), some (.int x), some (.int y), some (.ref 125), none] [] w _
      refine ex_s (fun _ => ev_aload_n dL_dragonOf_0 rfl) ?_
      refine ex_s (fun _ => ev_iconst dL_dragonOf_1 ic0) ?_
      refine ex_s (fun _ => ev_aload_n dL_dragonOf_2 rfl) ?_
      refine ex_s (fun _ => ev_iload_n dL_dragonOf_3 rfl) ?_
      refine ex_s (fun _ => ev_iload_n dL_dragonOf_4 rfl) ?_
      refine ex_s2 (fun Z => @ev_callVc G 20 1 _ 1 mL_dragonOf mX11_dragonOf 5 54 2 0 4 [some (.ref 0), some (.int x), some (.int y), some (.ref 125), none] [.int x, .int y] [.int (nI 0), .ref 125] w w1 "java/lang/IllegalArgumentException" Z kL_54 co0 hB dL_dragonOf_5 rfl (by decide) (by decide) rfl [(0, 10, 13, 13)] [] (0, 10, 17, 15) rfl (hp_cons (by decide) xc_13 nc_IllegalArg_IndexOutOf hp_nil) (by decide) (by decide) (by decide) xc_15 xt_IllegalArg 2 (Or.inr ⟨dL_dragonOf_17, rfl⟩) (by decide) rfl) ?_
      refine ex_s (fun _ => ev_iconst dL_dragonOf_19 ic2) ?_
      exact ⟨_, _, ⟨rfl, hA, fun k hk => fr_out hf hk, fun z => absurd (show (2 : Nat) = 0 from z) (by decide)⟩, ev_iret dL_dragonOf_20 rfl rfl rfl rfl⟩
theorem le_weight {A : AS} {x : Int32} : ((qWe (aS A) x, A)).1.1 ≤ 1 := by
  show (qWe (aS A) x).1 ≤ 1
  unfold qWe
  (repeat' split) <;> exact Nat.le_of_ble_eq_true rfl
set_option maxRecDepth 4000 in
theorem hL_weight {G : GX} {w : WS} {A : AS} (h : aX A w) (x : Int32) : ∃ o w2, pWr ((qWe (aS A) x, A)) w o w2 ∧ Big G 20 1 mL_weight [.ref 0, .int x, .ref 125] w o w2 := by
  obtain ⟨o, w1, ⟨ho, hA, hf⟩, hB⟩ := fX11_weight (G := G) h x
  have hle : ((qWe (aS A) x, A)).1.1 ≤ 1 := le_weight
  generalize (qWe (aS A) x, A) = r at ho hA hle ⊢
  obtain ⟨⟨k, v⟩, A2⟩ := r
  have hle : k ≤ 1 := hle
  rcases Nat.eq_zero_or_pos k with rfl | hk
  · have hB := big_o (show o = .inl (some (.int v)) from ho) hB
    refine bx_of (P := pWr ((0, v), A2) w) (by decide +kernel) (Nat.le_of_ble_eq_true rfl) ?_
    show Ex G 20 1 mL_weight 0 [some (.ref 0), some (.int x), some (.ref 125), none] [] w _
    refine ex_s (fun _ => ev_aload_n dL_weight_0 rfl) ?_
    refine ex_s (fun _ => ev_iconst dL_weight_1 ic0) ?_
    refine ex_s (fun _ => ev_aload_n dL_weight_2 rfl) ?_
    refine ex_s (fun _ => ev_iload_n dL_weight_3 rfl) ?_
    refine ex_s2 (fun _ => ev_callV kL_57 co0 hB dL_weight_4 rfl (by decide) (by decide) rfl) ?_
    refine ex_s (fun _ => ev_i2l dL_weight_7) ?_
    refine ex_s (fun _ => ev_lastore dL_weight_8 rfl) ?_
    refine ex_s (fun _ => ev_goto (tgt := 15) dL_weight_9 (by decide)) ?_
    refine ex_s (fun _ => ev_iconst dL_weight_15 ic0) ?_
    exact ⟨_, (w1.1, v.toInt64, w1.2.2), ⟨rfl, aX_of rfl hA, fun k hk => fr_out hf hk, fun _ => rfl⟩, ev_iret dL_weight_16 rfl rfl rfl rfl⟩
  · have hk1 : 1 ≤ k := hk
    obtain rfl : k = 1 := by omega
    skip
    have hB := big_o (show o = .inr "java/lang/IndexOutOfBoundsException" from ho) hB
    refine bx_of (P := pWr ((1, v), A2) w) (by decide +kernel) (Nat.le_of_ble_eq_true rfl) ?_
    show Ex G 20 1 mL_weight 0 [some (.ref 0), some (.int x), some (.ref 125), none] [] w _
    refine ex_s (fun _ => ev_aload_n dL_weight_0 rfl) ?_
    refine ex_s (fun _ => ev_iconst dL_weight_1 ic0) ?_
    refine ex_s (fun _ => ev_aload_n dL_weight_2 rfl) ?_
    refine ex_s (fun _ => ev_iload_n dL_weight_3 rfl) ?_
    refine ex_s2 (fun Z => @ev_callVc G 20 1 _ 1 mL_weight mX11_weight 4 57 1 0 3 [some (.ref 0), some (.int x), some (.ref 125), none] [.int x] [.int (nI 0), .ref 125] w w1 "java/lang/IndexOutOfBoundsException" Z kL_57 co0 hB dL_weight_4 rfl (by decide) (by decide) rfl [] [] (0, 9, 12, 13) rfl hp_nil (by decide) (by decide) (by decide) xc_13 xt_IndexOutOf 1 (Or.inl ⟨3, rfl, dL_weight_12, rfl⟩) (by decide) rfl) ?_
    refine ex_s (fun _ => ev_iconst dL_weight_13 ic1) ?_
    exact ⟨_, _, ⟨rfl, hA, fun k hk => fr_out hf hk, fun z => absurd (show (1 : Nat) = 0 from z) (by decide)⟩, ev_iret dL_weight_14 rfl rfl rfl rfl⟩
theorem le_weightAgain {A : AS} {x : Int32} : ((qWe (aS A) x, A)).1.1 ≤ 1 := by
  show (qWe (aS A) x).1 ≤ 1
  unfold qWe
  (repeat' split) <;> exact Nat.le_of_ble_eq_true rfl
set_option maxRecDepth 4000 in
theorem hL_weightAgain {G : GX} {w : WS} {A : AS} (h : aX A w) (x : Int32) : ∃ o w2, pWr ((qWe (aS A) x, A)) w o w2 ∧ Big G 20 1 mL_weightAgain [.ref 0, .int x, .ref 125] w o w2 := by
  obtain ⟨o, w1, ⟨ho, hA, hf⟩, hB⟩ := fX11_weightAgain (G := G) h x
  have hle : ((qWe (aS A) x, A)).1.1 ≤ 1 := le_weightAgain
  generalize (qWe (aS A) x, A) = r at ho hA hle ⊢
  obtain ⟨⟨k, v⟩, A2⟩ := r
  have hle : k ≤ 1 := hle
  rcases Nat.eq_zero_or_pos k with rfl | hk
  · have hB := big_o (show o = .inl (some (.int v)) from ho) hB
    refine bx_of (P := pWr ((0, v), A2) w) (by decide +kernel) (Nat.le_of_ble_eq_true rfl) ?_
    show Ex G 20 1 mL_weightAgain 0 [some (.ref 0), some (.int x), some (.ref 125), none] [] w _
    refine ex_s (fun _ => ev_aload_n dL_weightAgain_0 rfl) ?_
    refine ex_s (fun _ => ev_iconst dL_weightAgain_1 ic0) ?_
    refine ex_s (fun _ => ev_aload_n dL_weightAgain_2 rfl) ?_
    refine ex_s (fun _ => ev_iload_n dL_weightAgain_3 rfl) ?_
    refine ex_s2 (fun _ => ev_callV kL_60 co0 hB dL_weightAgain_4 rfl (by decide) (by decide) rfl) ?_
    refine ex_s (fun _ => ev_i2l dL_weightAgain_7) ?_
    refine ex_s (fun _ => ev_lastore dL_weightAgain_8 rfl) ?_
    refine ex_s (fun _ => ev_goto (tgt := 15) dL_weightAgain_9 (by decide)) ?_
    refine ex_s (fun _ => ev_iconst dL_weightAgain_15 ic0) ?_
    exact ⟨_, (w1.1, v.toInt64, w1.2.2), ⟨rfl, aX_of rfl hA, fun k hk => fr_out hf hk, fun _ => rfl⟩, ev_iret dL_weightAgain_16 rfl rfl rfl rfl⟩
  · have hk1 : 1 ≤ k := hk
    obtain rfl : k = 1 := by omega
    skip
    have hB := big_o (show o = .inr "java/lang/IndexOutOfBoundsException" from ho) hB
    refine bx_of (P := pWr ((1, v), A2) w) (by decide +kernel) (Nat.le_of_ble_eq_true rfl) ?_
    show Ex G 20 1 mL_weightAgain 0 [some (.ref 0), some (.int x), some (.ref 125), none] [] w _
    refine ex_s (fun _ => ev_aload_n dL_weightAgain_0 rfl) ?_
    refine ex_s (fun _ => ev_iconst dL_weightAgain_1 ic0) ?_
    refine ex_s (fun _ => ev_aload_n dL_weightAgain_2 rfl) ?_
    refine ex_s (fun _ => ev_iload_n dL_weightAgain_3 rfl) ?_
    refine ex_s2 (fun Z => @ev_callVc G 20 1 _ 1 mL_weightAgain mX11_weightAgain 4 60 1 0 3 [some (.ref 0), some (.int x), some (.ref 125), none] [.int x] [.int (nI 0), .ref 125] w w1 "java/lang/IndexOutOfBoundsException" Z kL_60 co0 hB dL_weightAgain_4 rfl (by decide) (by decide) rfl [] [] (0, 9, 12, 13) rfl hp_nil (by decide) (by decide) (by decide) xc_13 xt_IndexOutOf 1 (Or.inl ⟨3, rfl, dL_weightAgain_12, rfl⟩) (by decide) rfl) ?_
    refine ex_s (fun _ => ev_iconst dL_weightAgain_13 ic1) ?_
    exact ⟨_, _, ⟨rfl, hA, fun k hk => fr_out hf hk, fun z => absurd (show (1 : Nat) = 0 from z) (by decide)⟩, ev_iret dL_weightAgain_14 rfl rfl rfl rfl⟩
theorem le_border {A : AS} {x : Int32} {y : Int32} : ((qBo (aS A) x y, A)).1.1 ≤ 1 := by
  show (qBo (aS A) x y).1 ≤ 1
  unfold qBo
  (repeat' split) <;> exact Nat.le_of_ble_eq_true rfl
set_option maxRecDepth 4000 in
theorem hL_border {G : GX} {w : WS} {A : AS} (h : aX A w) (x : Int32) (y : Int32) : ∃ o w2, pWr ((qBo (aS A) x y, A)) w o w2 ∧ Big G 20 1 mL_border [.ref 0, .int x, .int y, .ref 125] w o w2 := by
  obtain ⟨o, w1, ⟨ho, hA, hf⟩, hB⟩ := fX11_border (G := G) h x y
  have hle : ((qBo (aS A) x y, A)).1.1 ≤ 1 := le_border
  generalize (qBo (aS A) x y, A) = r at ho hA hle ⊢
  obtain ⟨⟨k, v⟩, A2⟩ := r
  have hle : k ≤ 1 := hle
  rcases Nat.eq_zero_or_pos k with rfl | hk
  · have hB := big_o (show o = .inl (some (.int v)) from ho) hB
    refine bx_of (P := pWr ((0, v), A2) w) (by decide +kernel) (Nat.le_of_ble_eq_true rfl) ?_
    show Ex G 20 1 mL_border 0 [some (.ref 0), some (.int x), some (.int y), some (.ref 125), none] [] w _
    refine ex_s (fun _ => ev_aload_n dL_border_0 rfl) ?_
    refine ex_s (fun _ => ev_iconst dL_border_1 ic0) ?_
    refine ex_s (fun _ => ev_aload_n dL_border_2 rfl) ?_
    refine ex_s (fun _ => ev_iload_n dL_border_3 rfl) ?_
    refine ex_s (fun _ => ev_iload_n dL_border_4 rfl) ?_
    refine ex_s2 (fun _ => ev_callV kL_63 co0 hB dL_border_5 rfl (by decide) (by decide) rfl) ?_
    refine ex_s (fun _ => ev_i2l dL_border_8) ?_
    refine ex_s (fun _ => ev_lastore dL_border_9 rfl) ?_
    refine ex_s (fun _ => ev_goto (tgt := 17) dL_border_10 (by decide)) ?_
    refine ex_s (fun _ => ev_iconst dL_border_17 ic0) ?_
    exact ⟨_, (w1.1, v.toInt64, w1.2.2), ⟨rfl, aX_of rfl hA, fun k hk => fr_out hf hk, fun _ => rfl⟩, ev_iret dL_border_18 rfl rfl rfl rfl⟩
  · have hk1 : 1 ≤ k := hk
    obtain rfl : k = 1 := by omega
    skip
    have hB := big_o (show o = .inr "java/lang/IndexOutOfBoundsException" from ho) hB
    refine bx_of (P := pWr ((1, v), A2) w) (by decide +kernel) (Nat.le_of_ble_eq_true rfl) ?_
    show Ex G 20 1 mL_border 0 [some (.ref 0), some (.int x), some (.int y), some (.ref 125), none] [] w _
    refine ex_s (fun _ => ev_aload_n dL_border_0 rfl) ?_
    refine ex_s (fun _ => ev_iconst dL_border_1 ic0) ?_
    refine ex_s (fun _ => ev_aload_n dL_border_2 rfl) ?_
    refine ex_s (fun _ => ev_iload_n dL_border_3 rfl) ?_
    refine ex_s (fun _ => ev_iload_n dL_border_4 rfl) ?_
    refine ex_s2 (fun Z => @ev_callVc G 20 1 _ 1 mL_border mX11_border 5 63 2 0 4 [some (.ref 0), some (.int x), some (.int y), some (.ref 125), none] [.int x, .int y] [.int (nI 0), .ref 125] w w1 "java/lang/IndexOutOfBoundsException" Z kL_63 co0 hB dL_border_5 rfl (by decide) (by decide) rfl [] [] (0, 10, 13, 13) rfl hp_nil (by decide) (by decide) (by decide) xc_13 xt_IndexOutOf 2 (Or.inr ⟨dL_border_13, rfl⟩) (by decide) rfl) ?_
    refine ex_s (fun _ => ev_iconst dL_border_15 ic1) ?_
    exact ⟨_, _, ⟨rfl, hA, fun k hk => fr_out hf hk, fun z => absurd (show (1 : Nat) = 0 from z) (by decide)⟩, ev_iret dL_border_16 rfl rfl rfl rfl⟩
theorem le_around {A : AS} {x : Int32} : ((qAr (aS A) x, A)).1.1 ≤ 1 := by
  show (qAr (aS A) x).1 ≤ 1
  unfold qAr
  (repeat' split) <;> exact Nat.le_of_ble_eq_true rfl
set_option maxRecDepth 4000 in
theorem hL_around {G : GX} {w : WS} {A : AS} (h : aX A w) (x : Int32) : ∃ o w2, pWr ((qAr (aS A) x, A)) w o w2 ∧ Big G 20 1 mL_around [.ref 0, .int x, .ref 125] w o w2 := by
  obtain ⟨o, w1, ⟨ho, hA, hf⟩, hB⟩ := fX11_around (G := G) h x
  have hle : ((qAr (aS A) x, A)).1.1 ≤ 1 := le_around
  generalize (qAr (aS A) x, A) = r at ho hA hle ⊢
  obtain ⟨⟨k, v⟩, A2⟩ := r
  have hle : k ≤ 1 := hle
  rcases Nat.eq_zero_or_pos k with rfl | hk
  · have hB := big_o (show o = .inl (some (.int v)) from ho) hB
    refine bx_of (P := pWr ((0, v), A2) w) (by decide +kernel) (Nat.le_of_ble_eq_true rfl) ?_
    show Ex G 20 1 mL_around 0 [some (.ref 0), some (.int x), some (.ref 125), none] [] w _
    refine ex_s (fun _ => ev_aload_n dL_around_0 rfl) ?_
    refine ex_s (fun _ => ev_iconst dL_around_1 ic0) ?_
    refine ex_s (fun _ => ev_aload_n dL_around_2 rfl) ?_
    refine ex_s (fun _ => ev_iload_n dL_around_3 rfl) ?_
    refine ex_s2 (fun _ => ev_callV kL_66 co0 hB dL_around_4 rfl (by decide) (by decide) rfl) ?_
    refine ex_s (fun _ => ev_i2l dL_around_7) ?_
    refine ex_s (fun _ => ev_lastore dL_around_8 rfl) ?_
    refine ex_s (fun _ => ev_goto (tgt := 15) dL_around_9 (by decide)) ?_
    refine ex_s (fun _ => ev_iconst dL_around_15 ic0) ?_
    exact ⟨_, (w1.1, v.toInt64, w1.2.2), ⟨rfl, aX_of rfl hA, fun k hk => fr_out hf hk, fun _ => rfl⟩, ev_iret dL_around_16 rfl rfl rfl rfl⟩
  · have hk1 : 1 ≤ k := hk
    obtain rfl : k = 1 := by omega
    skip
    have hB := big_o (show o = .inr "java/lang/IndexOutOfBoundsException" from ho) hB
    refine bx_of (P := pWr ((1, v), A2) w) (by decide +kernel) (Nat.le_of_ble_eq_true rfl) ?_
    show Ex G 20 1 mL_around 0 [some (.ref 0), some (.int x), some (.ref 125), none] [] w _
    refine ex_s (fun _ => ev_aload_n dL_around_0 rfl) ?_
    refine ex_s (fun _ => ev_iconst dL_around_1 ic0) ?_
    refine ex_s (fun _ => ev_aload_n dL_around_2 rfl) ?_
    refine ex_s (fun _ => ev_iload_n dL_around_3 rfl) ?_
    refine ex_s2 (fun Z => @ev_callVc G 20 1 _ 1 mL_around mX11_around 4 66 1 0 3 [some (.ref 0), some (.int x), some (.ref 125), none] [.int x] [.int (nI 0), .ref 125] w w1 "java/lang/IndexOutOfBoundsException" Z kL_66 co0 hB dL_around_4 rfl (by decide) (by decide) rfl [] [] (0, 9, 12, 13) rfl hp_nil (by decide) (by decide) (by decide) xc_13 xt_IndexOutOf 1 (Or.inl ⟨3, rfl, dL_around_12, rfl⟩) (by decide) rfl) ?_
    refine ex_s (fun _ => ev_iconst dL_around_13 ic1) ?_
    exact ⟨_, _, ⟨rfl, hA, fun k hk => fr_out hf hk, fun z => absurd (show (1 : Nat) = 0 from z) (by decide)⟩, ev_iret dL_around_14 rfl rfl rfl rfl⟩
theorem le_aroundAgain {A : AS} {x : Int32} : ((qAr (aS A) x, A)).1.1 ≤ 1 := by
  show (qAr (aS A) x).1 ≤ 1
  unfold qAr
  (repeat' split) <;> exact Nat.le_of_ble_eq_true rfl
set_option maxRecDepth 4000 in
theorem hL_aroundAgain {G : GX} {w : WS} {A : AS} (h : aX A w) (x : Int32) : ∃ o w2, pWr ((qAr (aS A) x, A)) w o w2 ∧ Big G 20 1 mL_aroundAgain [.ref 0, .int x, .ref 125] w o w2 := by
  obtain ⟨o, w1, ⟨ho, hA, hf⟩, hB⟩ := fX11_aroundAgain (G := G) h x
  have hle : ((qAr (aS A) x, A)).1.1 ≤ 1 := le_aroundAgain
  generalize (qAr (aS A) x, A) = r at ho hA hle ⊢
  obtain ⟨⟨k, v⟩, A2⟩ := r
  have hle : k ≤ 1 := hle
  rcases Nat.eq_zero_or_pos k with rfl | hk
  · have hB := big_o (show o = .inl (some (.int v)) from ho) hB
    refine bx_of (P := pWr ((0, v), A2) w) (by decide +kernel) (Nat.le_of_ble_eq_true rfl) ?_
    show Ex G 20 1 mL_aroundAgain 0 [some (.ref 0), some (.int x), some (.ref 125), none] [] w _
    refine ex_s (fun _ => ev_aload_n dL_aroundAgain_0 rfl) ?_
    refine ex_s (fun _ => ev_iconst dL_aroundAgain_1 ic0) ?_
    refine ex_s (fun _ => ev_aload_n dL_aroundAgain_2 rfl) ?_
    refine ex_s (fun _ => ev_iload_n dL_aroundAgain_3 rfl) ?_
    refine ex_s2 (fun _ => ev_callV kL_69 co0 hB dL_aroundAgain_4 rfl (by decide) (by decide) rfl) ?_
    refine ex_s (fun _ => ev_i2l dL_aroundAgain_7) ?_
    refine ex_s (fun _ => ev_lastore dL_aroundAgain_8 rfl) ?_
    refine ex_s (fun _ => ev_goto (tgt := 15) dL_aroundAgain_9 (by decide)) ?_
    refine ex_s (fun _ => ev_iconst dL_aroundAgain_15 ic0) ?_
    exact ⟨_, (w1.1, v.toInt64, w1.2.2), ⟨rfl, aX_of rfl hA, fun k hk => fr_out hf hk, fun _ => rfl⟩, ev_iret dL_aroundAgain_16 rfl rfl rfl rfl⟩
  · have hk1 : 1 ≤ k := hk
    obtain rfl : k = 1 := by omega
    skip
    have hB := big_o (show o = .inr "java/lang/IndexOutOfBoundsException" from ho) hB
    refine bx_of (P := pWr ((1, v), A2) w) (by decide +kernel) (Nat.le_of_ble_eq_true rfl) ?_
    show Ex G 20 1 mL_aroundAgain 0 [some (.ref 0), some (.int x), some (.ref 125), none] [] w _
    refine ex_s (fun _ => ev_aload_n dL_aroundAgain_0 rfl) ?_
    refine ex_s (fun _ => ev_iconst dL_aroundAgain_1 ic0) ?_
    refine ex_s (fun _ => ev_aload_n dL_aroundAgain_2 rfl) ?_
    refine ex_s (fun _ => ev_iload_n dL_aroundAgain_3 rfl) ?_
    refine ex_s2 (fun Z => @ev_callVc G 20 1 _ 1 mL_aroundAgain mX11_aroundAgain 4 69 1 0 3 [some (.ref 0), some (.int x), some (.ref 125), none] [.int x] [.int (nI 0), .ref 125] w w1 "java/lang/IndexOutOfBoundsException" Z kL_69 co0 hB dL_aroundAgain_4 rfl (by decide) (by decide) rfl [] [] (0, 9, 12, 13) rfl hp_nil (by decide) (by decide) (by decide) xc_13 xt_IndexOutOf 1 (Or.inl ⟨3, rfl, dL_aroundAgain_12, rfl⟩) (by decide) rfl) ?_
    refine ex_s (fun _ => ev_iconst dL_aroundAgain_13 ic1) ?_
    exact ⟨_, _, ⟨rfl, hA, fun k hk => fr_out hf hk, fun z => absurd (show (1 : Nat) = 0 from z) (by decide)⟩, ev_iret dL_aroundAgain_14 rfl rfl rfl rfl⟩
theorem le_parts {A : AS} {x : Int32} : ((qPa (aS A) x, A)).1.1 ≤ 1 := by
  show (qPa (aS A) x).1 ≤ 1
  unfold qPa
  (repeat' split) <;> exact Nat.le_of_ble_eq_true rfl
set_option maxRecDepth 4000 in
theorem hL_parts {G : GX} {w : WS} {A : AS} (h : aX A w) (x : Int32) : ∃ o w2, pWr ((qPa (aS A) x, A)) w o w2 ∧ Big G 20 1 mL_parts [.ref 0, .int x, .ref 125] w o w2 := by
  obtain ⟨o, w1, ⟨ho, hA, hf⟩, hB⟩ := fX11_parts (G := G) h x
  have hle : ((qPa (aS A) x, A)).1.1 ≤ 1 := le_parts
  generalize (qPa (aS A) x, A) = r at ho hA hle ⊢
  obtain ⟨⟨k, v⟩, A2⟩ := r
  have hle : k ≤ 1 := hle
  rcases Nat.eq_zero_or_pos k with rfl | hk
  · have hB := big_o (show o = .inl (some (.int v)) from ho) hB
    refine bx_of (P := pWr ((0, v), A2) w) (by decide +kernel) (Nat.le_of_ble_eq_true rfl) ?_
    show Ex G 20 1 mL_parts 0 [some (.ref 0), some (.int x), some (.ref 125), none] [] w _
    refine ex_s (fun _ => ev_aload_n dL_parts_0 rfl) ?_
    refine ex_s (fun _ => ev_iconst dL_parts_1 ic0) ?_
    refine ex_s (fun _ => ev_aload_n dL_parts_2 rfl) ?_
    refine ex_s (fun _ => ev_iload_n dL_parts_3 rfl) ?_
    refine ex_s2 (fun _ => ev_callV kL_72 co0 hB dL_parts_4 rfl (by decide) (by decide) rfl) ?_
    refine ex_s (fun _ => ev_i2l dL_parts_7) ?_
    refine ex_s (fun _ => ev_lastore dL_parts_8 rfl) ?_
    refine ex_s (fun _ => ev_goto (tgt := 15) dL_parts_9 (by decide)) ?_
    refine ex_s (fun _ => ev_iconst dL_parts_15 ic0) ?_
    exact ⟨_, (w1.1, v.toInt64, w1.2.2), ⟨rfl, aX_of rfl hA, fun k hk => fr_out hf hk, fun _ => rfl⟩, ev_iret dL_parts_16 rfl rfl rfl rfl⟩
  · have hk1 : 1 ≤ k := hk
    obtain rfl : k = 1 := by omega
    skip
    have hB := big_o (show o = .inr "java/lang/IndexOutOfBoundsException" from ho) hB
    refine bx_of (P := pWr ((1, v), A2) w) (by decide +kernel) (Nat.le_of_ble_eq_true rfl) ?_
    show Ex G 20 1 mL_parts 0 [some (.ref 0), some (.int x), some (.ref 125), none] [] w _
    refine ex_s (fun _ => ev_aload_n dL_parts_0 rfl) ?_
    refine ex_s (fun _ => ev_iconst dL_parts_1 ic0) ?_
    refine ex_s (fun _ => ev_aload_n dL_parts_2 rfl) ?_
    refine ex_s (fun _ => ev_iload_n dL_parts_3 rfl) ?_
    refine ex_s2 (fun Z => @ev_callVc G 20 1 _ 1 mL_parts mX11_parts 4 72 1 0 3 [some (.ref 0), some (.int x), some (.ref 125), none] [.int x] [.int (nI 0), .ref 125] w w1 "java/lang/IndexOutOfBoundsException" Z kL_72 co0 hB dL_parts_4 rfl (by decide) (by decide) rfl [] [] (0, 9, 12, 13) rfl hp_nil (by decide) (by decide) (by decide) xc_13 xt_IndexOutOf 1 (Or.inl ⟨3, rfl, dL_parts_12, rfl⟩) (by decide) rfl) ?_
    refine ex_s (fun _ => ev_iconst dL_parts_13 ic1) ?_
    exact ⟨_, _, ⟨rfl, hA, fun k hk => fr_out hf hk, fun z => absurd (show (1 : Nat) = 0 from z) (by decide)⟩, ev_iret dL_parts_14 rfl rfl rfl rfl⟩
theorem le_partsAgain {A : AS} {x : Int32} : ((qPa (aS A) x, A)).1.1 ≤ 1 := by
  show (qPa (aS A) x).1 ≤ 1
  unfold qPa
  (repeat' split) <;> exact Nat.le_of_ble_eq_true rfl
set_option maxRecDepth 4000 in
theorem hL_partsAgain {G : GX} {w : WS} {A : AS} (h : aX A w) (x : Int32) : ∃ o w2, pWr ((qPa (aS A) x, A)) w o w2 ∧ Big G 20 1 mL_partsAgain [.ref 0, .int x, .ref 125] w o w2 := by
  obtain ⟨o, w1, ⟨ho, hA, hf⟩, hB⟩ := fX11_partsAgain (G := G) h x
  have hle : ((qPa (aS A) x, A)).1.1 ≤ 1 := le_partsAgain
  generalize (qPa (aS A) x, A) = r at ho hA hle ⊢
  obtain ⟨⟨k, v⟩, A2⟩ := r
  have hle : k ≤ 1 := hle
  rcases Nat.eq_zero_or_pos k with rfl | hk
  · have hB := big_o (show o = .inl (some (.int v)) from ho) hB
    refine bx_of (P := pWr ((0, v), A2) w) (by decide +kernel) (Nat.le_of_ble_eq_true rfl) ?_
    show Ex G 20 1 mL_partsAgain 0 [some (.ref 0), some (.int x), some (.ref 125), none] [] w _
    refine ex_s (fun _ => ev_aload_n dL_partsAgain_0 rfl) ?_
    refine ex_s (fun _ => ev_iconst dL_partsAgain_1 ic0) ?_
    refine ex_s (fun _ => ev_aload_n dL_partsAgain_2 rfl) ?_
    refine ex_s (fun _ => ev_iload_n dL_partsAgain_3 rfl) ?_
    refine ex_s2 (fun _ => ev_callV kL_75 co0 hB dL_partsAgain_4 rfl (by decide) (by decide) rfl) ?_
    refine ex_s (fun _ => ev_i2l dL_partsAgain_7) ?_
    refine ex_s (fun _ => ev_lastore dL_partsAgain_8 rfl) ?_
    refine ex_s (fun _ => ev_goto (tgt := 15) dL_partsAgain_9 (by decide)) ?_
    refine ex_s (fun _ => ev_iconst dL_partsAgain_15 ic0) ?_
    exact ⟨_, (w1.1, v.toInt64, w1.2.2), ⟨rfl, aX_of rfl hA, fun k hk => fr_out hf hk, fun _ => rfl⟩, ev_iret dL_partsAgain_16 rfl rfl rfl rfl⟩
  · have hk1 : 1 ≤ k := hk
    obtain rfl : k = 1 := by omega
    skip
    have hB := big_o (show o = .inr "java/lang/IndexOutOfBoundsException" from ho) hB
    refine bx_of (P := pWr ((1, v), A2) w) (by decide +kernel) (Nat.le_of_ble_eq_true rfl) ?_
    show Ex G 20 1 mL_partsAgain 0 [some (.ref 0), some (.int x), some (.ref 125), none] [] w _
    refine ex_s (fun _ => ev_aload_n dL_partsAgain_0 rfl) ?_
    refine ex_s (fun _ => ev_iconst dL_partsAgain_1 ic0) ?_
    refine ex_s (fun _ => ev_aload_n dL_partsAgain_2 rfl) ?_
    refine ex_s (fun _ => ev_iload_n dL_partsAgain_3 rfl) ?_
    refine ex_s2 (fun Z => @ev_callVc G 20 1 _ 1 mL_partsAgain mX11_partsAgain 4 75 1 0 3 [some (.ref 0), some (.int x), some (.ref 125), none] [.int x] [.int (nI 0), .ref 125] w w1 "java/lang/IndexOutOfBoundsException" Z kL_75 co0 hB dL_partsAgain_4 rfl (by decide) (by decide) rfl [] [] (0, 9, 12, 13) rfl hp_nil (by decide) (by decide) (by decide) xc_13 xt_IndexOutOf 1 (Or.inl ⟨3, rfl, dL_partsAgain_12, rfl⟩) (by decide) rfl) ?_
    refine ex_s (fun _ => ev_iconst dL_partsAgain_13 ic1) ?_
    exact ⟨_, _, ⟨rfl, hA, fun k hk => fr_out hf hk, fun z => absurd (show (1 : Nat) = 0 from z) (by decide)⟩, ev_iret dL_partsAgain_14 rfl rfl rfl rfl⟩
theorem le_couldShave {A : AS} {x : Int32} {y : Int32} : ((qCs (aS A) x y, A)).1.1 ≤ 1 := by
  show (qCs (aS A) x y).1 ≤ 1
  unfold qCs
  (repeat' split) <;> exact Nat.le_of_ble_eq_true rfl
set_option maxRecDepth 4000 in
theorem hL_couldShave {G : GX} {w : WS} {A : AS} (h : aX A w) (x : Int32) (y : Int32) : ∃ o w2, pWb ((qCs (aS A) x y, A)) w o w2 ∧ Big G 20 1 mL_couldShave [.ref 0, .int x, .int y, .ref 125] w o w2 := by
  obtain ⟨o, w1, ⟨ho, hA, hf⟩, hB⟩ := fX11_couldShave (G := G) h x y
  have hle : ((qCs (aS A) x y, A)).1.1 ≤ 1 := le_couldShave
  generalize (qCs (aS A) x y, A) = r at ho hA hle ⊢
  obtain ⟨⟨k, v⟩, A2⟩ := r
  have hle : k ≤ 1 := hle
  rcases Nat.eq_zero_or_pos k with rfl | hk
  · have hB := big_o (show o = .inl (some (.int v)) from ho) hB
    refine bx_of (P := pWb ((0, v), A2) w) (by decide +kernel) (Nat.le_of_ble_eq_true rfl) ?_
    show Ex G 20 1 mL_couldShave 0 [some (.ref 0), some (.int x), some (.int y), some (.ref 125), none] [] w _
    refine ex_s (fun _ => ev_aload_n dL_couldShave_0 rfl) ?_
    refine ex_s (fun _ => ev_iconst dL_couldShave_1 ic0) ?_
    refine ex_s (fun _ => ev_aload_n dL_couldShave_2 rfl) ?_
    refine ex_s (fun _ => ev_iload_n dL_couldShave_3 rfl) ?_
    refine ex_s (fun _ => ev_iload_n dL_couldShave_4 rfl) ?_
    refine ex_s2 (fun _ => ev_callV kL_78 co0 hB dL_couldShave_5 rfl (by decide) (by decide) rfl) ?_
    refine ex_bp (fun _ => ev_if_eq (tgt := 15) dL_couldShave_8 (by decide)) (fun hc8 => ?_) (fun hc8 => ?_)
    · refine ex_s (fun _ => ev_lconst dL_couldShave_15 rfl) ?_
      refine ex_s (fun _ => ev_lastore dL_couldShave_16 rfl) ?_
      refine ex_s (fun _ => ev_goto (tgt := 24) dL_couldShave_17 (by decide)) ?_
      refine ex_s (fun _ => ev_iconst dL_couldShave_24 ic0) ?_
      exact ⟨_, (w1.1, (0 : Int64), w1.2.2), ⟨rfl, aX_of rfl hA, fun k hk => fr_out hf hk, fun _ => (if_pos hc8).symm⟩, ev_iret dL_couldShave_25 rfl rfl rfl rfl⟩
    · refine ex_s (fun _ => ev_lconst dL_couldShave_11 rfl) ?_
      refine ex_s (fun _ => ev_goto (tgt := 16) dL_couldShave_12 (by decide)) ?_
      refine ex_s (fun _ => ev_lastore dL_couldShave_16 rfl) ?_
      refine ex_s (fun _ => ev_goto (tgt := 24) dL_couldShave_17 (by decide)) ?_
      refine ex_s (fun _ => ev_iconst dL_couldShave_24 ic0) ?_
      exact ⟨_, (w1.1, (1 : Int64), w1.2.2), ⟨rfl, aX_of rfl hA, fun k hk => fr_out hf hk, fun _ => (if_neg hc8).symm⟩, ev_iret dL_couldShave_25 rfl rfl rfl rfl⟩
  · have hk1 : 1 ≤ k := hk
    obtain rfl : k = 1 := by omega
    skip
    have hB := big_o (show o = .inr "java/lang/IndexOutOfBoundsException" from ho) hB
    refine bx_of (P := pWb ((1, v), A2) w) (by decide +kernel) (Nat.le_of_ble_eq_true rfl) ?_
    show Ex G 20 1 mL_couldShave 0 [some (.ref 0), some (.int x), some (.int y), some (.ref 125), none] [] w _
    refine ex_s (fun _ => ev_aload_n dL_couldShave_0 rfl) ?_
    refine ex_s (fun _ => ev_iconst dL_couldShave_1 ic0) ?_
    refine ex_s (fun _ => ev_aload_n dL_couldShave_2 rfl) ?_
    refine ex_s (fun _ => ev_iload_n dL_couldShave_3 rfl) ?_
    refine ex_s (fun _ => ev_iload_n dL_couldShave_4 rfl) ?_
    refine ex_s2 (fun Z => @ev_callVc G 20 1 _ 1 mL_couldShave mX11_couldShave 5 78 2 0 4 [some (.ref 0), some (.int x), some (.int y), some (.ref 125), none] [.int x, .int y] [.int (nI 0), .ref 125] w w1 "java/lang/IndexOutOfBoundsException" Z kL_78 co0 hB dL_couldShave_5 rfl (by decide) (by decide) rfl [] [] (0, 17, 20, 13) rfl hp_nil (by decide) (by decide) (by decide) xc_13 xt_IndexOutOf 2 (Or.inr ⟨dL_couldShave_20, rfl⟩) (by decide) rfl) ?_
    refine ex_s (fun _ => ev_iconst dL_couldShave_22 ic1) ?_
    exact ⟨_, _, ⟨rfl, hA, fun k hk => fr_out hf hk, fun z => absurd (show (1 : Nat) = 0 from z) (by decide)⟩, ev_iret dL_couldShave_23 rfl rfl rfl rfl⟩
theorem le_shavable {A : AS} {x : Int32} : ((qSh (aS A) x, A)).1.1 ≤ 1 := by
  show (qSh (aS A) x).1 ≤ 1
  unfold qSh
  (repeat' split) <;> exact Nat.le_of_ble_eq_true rfl
set_option maxRecDepth 4000 in
theorem hL_shavable {G : GX} {w : WS} {A : AS} (h : aX A w) (x : Int32) : ∃ o w2, pWr ((qSh (aS A) x, A)) w o w2 ∧ Big G 20 1 mL_shavable [.ref 0, .int x, .ref 125] w o w2 := by
  obtain ⟨o, w1, ⟨ho, hA, hf⟩, hB⟩ := fX11_shavable (G := G) h x
  have hle : ((qSh (aS A) x, A)).1.1 ≤ 1 := le_shavable
  generalize (qSh (aS A) x, A) = r at ho hA hle ⊢
  obtain ⟨⟨k, v⟩, A2⟩ := r
  have hle : k ≤ 1 := hle
  rcases Nat.eq_zero_or_pos k with rfl | hk
  · have hB := big_o (show o = .inl (some (.int v)) from ho) hB
    refine bx_of (P := pWr ((0, v), A2) w) (by decide +kernel) (Nat.le_of_ble_eq_true rfl) ?_
    show Ex G 20 1 mL_shavable 0 [some (.ref 0), some (.int x), some (.ref 125), none] [] w _
    refine ex_s (fun _ => ev_aload_n dL_shavable_0 rfl) ?_
    refine ex_s (fun _ => ev_iconst dL_shavable_1 ic0) ?_
    refine ex_s (fun _ => ev_aload_n dL_shavable_2 rfl) ?_
    refine ex_s (fun _ => ev_iload_n dL_shavable_3 rfl) ?_
    refine ex_s2 (fun _ => ev_callV kL_82 co0 hB dL_shavable_4 rfl (by decide) (by decide) rfl) ?_
    refine ex_s (fun _ => ev_i2l dL_shavable_7) ?_
    refine ex_s (fun _ => ev_lastore dL_shavable_8 rfl) ?_
    refine ex_s (fun _ => ev_goto (tgt := 15) dL_shavable_9 (by decide)) ?_
    refine ex_s (fun _ => ev_iconst dL_shavable_15 ic0) ?_
    exact ⟨_, (w1.1, v.toInt64, w1.2.2), ⟨rfl, aX_of rfl hA, fun k hk => fr_out hf hk, fun _ => rfl⟩, ev_iret dL_shavable_16 rfl rfl rfl rfl⟩
  · have hk1 : 1 ≤ k := hk
    obtain rfl : k = 1 := by omega
    skip
    have hB := big_o (show o = .inr "java/lang/IndexOutOfBoundsException" from ho) hB
    refine bx_of (P := pWr ((1, v), A2) w) (by decide +kernel) (Nat.le_of_ble_eq_true rfl) ?_
    show Ex G 20 1 mL_shavable 0 [some (.ref 0), some (.int x), some (.ref 125), none] [] w _
    refine ex_s (fun _ => ev_aload_n dL_shavable_0 rfl) ?_
    refine ex_s (fun _ => ev_iconst dL_shavable_1 ic0) ?_
    refine ex_s (fun _ => ev_aload_n dL_shavable_2 rfl) ?_
    refine ex_s (fun _ => ev_iload_n dL_shavable_3 rfl) ?_
    refine ex_s2 (fun Z => @ev_callVc G 20 1 _ 1 mL_shavable mX11_shavable 4 82 1 0 3 [some (.ref 0), some (.int x), some (.ref 125), none] [.int x] [.int (nI 0), .ref 125] w w1 "java/lang/IndexOutOfBoundsException" Z kL_82 co0 hB dL_shavable_4 rfl (by decide) (by decide) rfl [] [] (0, 9, 12, 13) rfl hp_nil (by decide) (by decide) (by decide) xc_13 xt_IndexOutOf 1 (Or.inl ⟨3, rfl, dL_shavable_12, rfl⟩) (by decide) rfl) ?_
    refine ex_s (fun _ => ev_iconst dL_shavable_13 ic1) ?_
    exact ⟨_, _, ⟨rfl, hA, fun k hk => fr_out hf hk, fun z => absurd (show (1 : Nat) = 0 from z) (by decide)⟩, ev_iret dL_shavable_14 rfl rfl rfl rfl⟩
theorem le_lies {A : AS} {b : Bool} {x : Int32} : ((qLi (aS A) b x, A)).1.1 ≤ 1 := by
  show (qLi (aS A) b x).1 ≤ 1
  unfold qLi
  (repeat' split) <;> exact Nat.le_of_ble_eq_true rfl
set_option maxRecDepth 4000 in
theorem hL_lies {G : GX} {w : WS} {A : AS} (h : aX A w) (b : Bool) (x : Int32) : ∃ o w2, pWr ((qLi (aS A) b x, A)) w o w2 ∧ Big G 20 1 mL_lies [.ref 0, .int (bI b), .int x, .ref 125] w o w2 := by
  obtain ⟨o, w1, ⟨ho, hA, hf⟩, hB⟩ := fX11_lies (G := G) h b x
  have hle : ((qLi (aS A) b x, A)).1.1 ≤ 1 := le_lies
  generalize (qLi (aS A) b x, A) = r at ho hA hle ⊢
  obtain ⟨⟨k, v⟩, A2⟩ := r
  have hle : k ≤ 1 := hle
  rcases Nat.eq_zero_or_pos k with rfl | hk
  · have hB := big_o (show o = .inl (some (.int v)) from ho) hB
    refine bx_of (P := pWr ((0, v), A2) w) (by decide +kernel) (Nat.le_of_ble_eq_true rfl) ?_
    show Ex G 20 1 mL_lies 0 [some (.ref 0), some (.int (bI b)), some (.int x), some (.ref 125), none] [] w _
    refine ex_s (fun _ => ev_aload_n dL_lies_0 rfl) ?_
    refine ex_s (fun _ => ev_iconst dL_lies_1 ic0) ?_
    refine ex_s (fun _ => ev_aload_n dL_lies_2 rfl) ?_
    refine ex_s (fun _ => ev_iload_n dL_lies_3 rfl) ?_
    refine ex_s (fun _ => ev_iload_n dL_lies_4 rfl) ?_
    refine ex_s2 (fun _ => ev_callV kL_85 co0 hB dL_lies_5 rfl (by decide) (by decide) rfl) ?_
    refine ex_s (fun _ => ev_i2l dL_lies_8) ?_
    refine ex_s (fun _ => ev_lastore dL_lies_9 rfl) ?_
    refine ex_s (fun _ => ev_goto (tgt := 17) dL_lies_10 (by decide)) ?_
    refine ex_s (fun _ => ev_iconst dL_lies_17 ic0) ?_
    exact ⟨_, (w1.1, v.toInt64, w1.2.2), ⟨rfl, aX_of rfl hA, fun k hk => fr_out hf hk, fun _ => rfl⟩, ev_iret dL_lies_18 rfl rfl rfl rfl⟩
  · have hk1 : 1 ≤ k := hk
    obtain rfl : k = 1 := by omega
    skip
    have hB := big_o (show o = .inr "java/lang/IllegalArgumentException" from ho) hB
    refine bx_of (P := pWr ((1, v), A2) w) (by decide +kernel) (Nat.le_of_ble_eq_true rfl) ?_
    show Ex G 20 1 mL_lies 0 [some (.ref 0), some (.int (bI b)), some (.int x), some (.ref 125), none] [] w _
    refine ex_s (fun _ => ev_aload_n dL_lies_0 rfl) ?_
    refine ex_s (fun _ => ev_iconst dL_lies_1 ic0) ?_
    refine ex_s (fun _ => ev_aload_n dL_lies_2 rfl) ?_
    refine ex_s (fun _ => ev_iload_n dL_lies_3 rfl) ?_
    refine ex_s (fun _ => ev_iload_n dL_lies_4 rfl) ?_
    refine ex_s2 (fun Z => @ev_callVc G 20 1 _ 1 mL_lies mX11_lies 5 85 2 0 4 [some (.ref 0), some (.int (bI b)), some (.int x), some (.ref 125), none] [.int (bI b), .int x] [.int (nI 0), .ref 125] w w1 "java/lang/IllegalArgumentException" Z kL_85 co0 hB dL_lies_5 rfl (by decide) (by decide) rfl [] [] (0, 10, 13, 15) rfl hp_nil (by decide) (by decide) (by decide) xc_15 xt_IllegalArg 2 (Or.inr ⟨dL_lies_13, rfl⟩) (by decide) rfl) ?_
    refine ex_s (fun _ => ev_iconst dL_lies_15 ic1) ?_
    exact ⟨_, _, ⟨rfl, hA, fun k hk => fr_out hf hk, fun z => absurd (show (1 : Nat) = 0 from z) (by decide)⟩, ev_iret dL_lies_16 rfl rfl rfl rfl⟩
theorem le_liesAgain {A : AS} {b : Bool} {x : Int32} : ((qLi (aS A) b x, A)).1.1 ≤ 1 := by
  show (qLi (aS A) b x).1 ≤ 1
  unfold qLi
  (repeat' split) <;> exact Nat.le_of_ble_eq_true rfl
set_option maxRecDepth 4000 in
theorem hL_liesAgain {G : GX} {w : WS} {A : AS} (h : aX A w) (b : Bool) (x : Int32) : ∃ o w2, pWr ((qLi (aS A) b x, A)) w o w2 ∧ Big G 20 1 mL_liesAgain [.ref 0, .int (bI b), .int x, .ref 125] w o w2 := by
  obtain ⟨o, w1, ⟨ho, hA, hf⟩, hB⟩ := fX11_liesAgain (G := G) h b x
  have hle : ((qLi (aS A) b x, A)).1.1 ≤ 1 := le_liesAgain
  generalize (qLi (aS A) b x, A) = r at ho hA hle ⊢
  obtain ⟨⟨k, v⟩, A2⟩ := r
  have hle : k ≤ 1 := hle
  rcases Nat.eq_zero_or_pos k with rfl | hk
  · have hB := big_o (show o = .inl (some (.int v)) from ho) hB
    refine bx_of (P := pWr ((0, v), A2) w) (by decide +kernel) (Nat.le_of_ble_eq_true rfl) ?_
    show Ex G 20 1 mL_liesAgain 0 [some (.ref 0), some (.int (bI b)), some (.int x), some (.ref 125), none] [] w _
    refine ex_s (fun _ => ev_aload_n dL_liesAgain_0 rfl) ?_
    refine ex_s (fun _ => ev_iconst dL_liesAgain_1 ic0) ?_
    refine ex_s (fun _ => ev_aload_n dL_liesAgain_2 rfl) ?_
    refine ex_s (fun _ => ev_iload_n dL_liesAgain_3 rfl) ?_
    refine ex_s (fun _ => ev_iload_n dL_liesAgain_4 rfl) ?_
    refine ex_s2 (fun _ => ev_callV kL_89 co0 hB dL_liesAgain_5 rfl (by decide) (by decide) rfl) ?_
    refine ex_s (fun _ => ev_i2l dL_liesAgain_8) ?_
    refine ex_s (fun _ => ev_lastore dL_liesAgain_9 rfl) ?_
    refine ex_s (fun _ => ev_goto (tgt := 17) dL_liesAgain_10 (by decide)) ?_
    refine ex_s (fun _ => ev_iconst dL_liesAgain_17 ic0) ?_
    exact ⟨_, (w1.1, v.toInt64, w1.2.2), ⟨rfl, aX_of rfl hA, fun k hk => fr_out hf hk, fun _ => rfl⟩, ev_iret dL_liesAgain_18 rfl rfl rfl rfl⟩
  · have hk1 : 1 ≤ k := hk
    obtain rfl : k = 1 := by omega
    skip
    have hB := big_o (show o = .inr "java/lang/IllegalArgumentException" from ho) hB
    refine bx_of (P := pWr ((1, v), A2) w) (by decide +kernel) (Nat.le_of_ble_eq_true rfl) ?_
    show Ex G 20 1 mL_liesAgain 0 [some (.ref 0), some (.int (bI b)), some (.int x), some (.ref 125), none] [] w _
    refine ex_s (fun _ => ev_aload_n dL_liesAgain_0 rfl) ?_
    refine ex_s (fun _ => ev_iconst dL_liesAgain_1 ic0) ?_
    refine ex_s (fun _ => ev_aload_n dL_liesAgain_2 rfl) ?_
    refine ex_s (fun _ => ev_iload_n dL_liesAgain_3 rfl) ?_
    refine ex_s (fun _ => ev_iload_n dL_liesAgain_4 rfl) ?_
    refine ex_s2 (fun Z => @ev_callVc G 20 1 _ 1 mL_liesAgain mX11_liesAgain 5 89 2 0 4 [some (.ref 0), some (.int (bI b)), some (.int x), some (.ref 125), none] [.int (bI b), .int x] [.int (nI 0), .ref 125] w w1 "java/lang/IllegalArgumentException" Z kL_89 co0 hB dL_liesAgain_5 rfl (by decide) (by decide) rfl [] [] (0, 10, 13, 15) rfl hp_nil (by decide) (by decide) (by decide) xc_15 xt_IllegalArg 2 (Or.inr ⟨dL_liesAgain_13, rfl⟩) (by decide) rfl) ?_
    refine ex_s (fun _ => ev_iconst dL_liesAgain_15 ic1) ?_
    exact ⟨_, _, ⟨rfl, hA, fun k hk => fr_out hf hk, fun z => absurd (show (1 : Nat) = 0 from z) (by decide)⟩, ev_iret dL_liesAgain_16 rfl rfl rfl rfl⟩
theorem le_bestScale {A : AS} : ((qBs (aS A), A)).1.1 ≤ 1 := by
  show (qBs (aS A)).1 ≤ 1
  unfold qBs
  (repeat' split) <;> exact Nat.le_of_ble_eq_true rfl
set_option maxRecDepth 4000 in
theorem hL_bestScale {G : GX} {w : WS} {A : AS} (h : aX A w) : ∃ o w2, pWr ((qBs (aS A), A)) w o w2 ∧ Big G 20 1 mL_bestScale [.ref 0, .ref 125] w o w2 := by
  obtain ⟨o, w1, ⟨ho, hA, hf⟩, hB⟩ := fX11_bestScale (G := G) h
  have hle : ((qBs (aS A), A)).1.1 ≤ 1 := le_bestScale
  generalize (qBs (aS A), A) = r at ho hA hle ⊢
  obtain ⟨⟨k, v⟩, A2⟩ := r
  have hle : k ≤ 1 := hle
  rcases Nat.eq_zero_or_pos k with rfl | hk
  · have hB := big_o (show o = .inl (some (.int v)) from ho) hB
    refine bx_of (P := pWr ((0, v), A2) w) (by decide +kernel) (Nat.le_of_ble_eq_true rfl) ?_
    show Ex G 20 1 mL_bestScale 0 [some (.ref 0), some (.ref 125), none] [] w _
    refine ex_s (fun _ => ev_aload_n dL_bestScale_0 rfl) ?_
    refine ex_s (fun _ => ev_iconst dL_bestScale_1 ic0) ?_
    refine ex_s (fun _ => ev_aload_n dL_bestScale_2 rfl) ?_
    refine ex_s2 (fun _ => ev_callV kL_92 co0 hB dL_bestScale_3 rfl (by decide) (by decide) rfl) ?_
    refine ex_s (fun _ => ev_i2l dL_bestScale_6) ?_
    refine ex_s (fun _ => ev_lastore dL_bestScale_7 rfl) ?_
    refine ex_s (fun _ => ev_goto (tgt := 14) dL_bestScale_8 (by decide)) ?_
    refine ex_s (fun _ => ev_iconst dL_bestScale_14 ic0) ?_
    exact ⟨_, (w1.1, v.toInt64, w1.2.2), ⟨rfl, aX_of rfl hA, fun k hk => fr_out hf hk, fun _ => rfl⟩, ev_iret dL_bestScale_15 rfl rfl rfl rfl⟩
  · have hk1 : 1 ≤ k := hk
    obtain rfl : k = 1 := by omega
    skip
    have hB := big_o (show o = .inr "java/util/NoSuchElementException" from ho) hB
    refine bx_of (P := pWr ((1, v), A2) w) (by decide +kernel) (Nat.le_of_ble_eq_true rfl) ?_
    show Ex G 20 1 mL_bestScale 0 [some (.ref 0), some (.ref 125), none] [] w _
    refine ex_s (fun _ => ev_aload_n dL_bestScale_0 rfl) ?_
    refine ex_s (fun _ => ev_iconst dL_bestScale_1 ic0) ?_
    refine ex_s (fun _ => ev_aload_n dL_bestScale_2 rfl) ?_
    refine ex_s2 (fun Z => @ev_callVc G 20 1 _ 1 mL_bestScale mX11_bestScale 3 92 0 0 2 [some (.ref 0), some (.ref 125), none] [] [.int (nI 0), .ref 125] w w1 "java/util/NoSuchElementException" Z kL_92 co0 hB dL_bestScale_3 rfl (by decide) (by decide) rfl [] [] (0, 8, 11, 52) rfl hp_nil (by decide) (by decide) (by decide) xc_52 xt_NoSuchElem 1 (Or.inl ⟨2, rfl, dL_bestScale_11, rfl⟩) (by decide) rfl) ?_
    refine ex_s (fun _ => ev_iconst dL_bestScale_12 ic1) ?_
    exact ⟨_, _, ⟨rfl, hA, fun k hk => fr_out hf hk, fun z => absurd (show (1 : Nat) = 0 from z) (by decide)⟩, ev_iret dL_bestScale_13 rfl rfl rfl rfl⟩
theorem le_ranked {A : AS} {x : Int32} : ((qRk (aS A) x, A)).1.1 ≤ 1 := by
  show (qRk (aS A) x).1 ≤ 1
  unfold qRk
  (repeat' split) <;> exact Nat.le_of_ble_eq_true rfl
set_option maxRecDepth 4000 in
theorem hL_ranked {G : GX} {w : WS} {A : AS} (h : aX A w) (x : Int32) : ∃ o w2, pWr ((qRk (aS A) x, A)) w o w2 ∧ Big G 20 1 mL_ranked [.ref 0, .int x, .ref 125] w o w2 := by
  obtain ⟨o, w1, ⟨ho, hA, hf⟩, hB⟩ := fX11_ranked (G := G) h x
  have hle : ((qRk (aS A) x, A)).1.1 ≤ 1 := le_ranked
  generalize (qRk (aS A) x, A) = r at ho hA hle ⊢
  obtain ⟨⟨k, v⟩, A2⟩ := r
  have hle : k ≤ 1 := hle
  rcases Nat.eq_zero_or_pos k with rfl | hk
  · have hB := big_o (show o = .inl (some (.int v)) from ho) hB
    refine bx_of (P := pWr ((0, v), A2) w) (by decide +kernel) (Nat.le_of_ble_eq_true rfl) ?_
    show Ex G 20 1 mL_ranked 0 [some (.ref 0), some (.int x), some (.ref 125), none] [] w _
    refine ex_s (fun _ => ev_aload_n dL_ranked_0 rfl) ?_
    refine ex_s (fun _ => ev_iconst dL_ranked_1 ic0) ?_
    refine ex_s (fun _ => ev_aload_n dL_ranked_2 rfl) ?_
    refine ex_s (fun _ => ev_iload_n dL_ranked_3 rfl) ?_
    refine ex_s2 (fun _ => ev_callV kL_96 co0 hB dL_ranked_4 rfl (by decide) (by decide) rfl) ?_
    refine ex_s (fun _ => ev_i2l dL_ranked_7) ?_
    refine ex_s (fun _ => ev_lastore dL_ranked_8 rfl) ?_
    refine ex_s (fun _ => ev_goto (tgt := 15) dL_ranked_9 (by decide)) ?_
    refine ex_s (fun _ => ev_iconst dL_ranked_15 ic0) ?_
    exact ⟨_, (w1.1, v.toInt64, w1.2.2), ⟨rfl, aX_of rfl hA, fun k hk => fr_out hf hk, fun _ => rfl⟩, ev_iret dL_ranked_16 rfl rfl rfl rfl⟩
  · have hk1 : 1 ≤ k := hk
    obtain rfl : k = 1 := by omega
    skip
    have hB := big_o (show o = .inr "java/util/NoSuchElementException" from ho) hB
    refine bx_of (P := pWr ((1, v), A2) w) (by decide +kernel) (Nat.le_of_ble_eq_true rfl) ?_
    show Ex G 20 1 mL_ranked 0 [some (.ref 0), some (.int x), some (.ref 125), none] [] w _
    refine ex_s (fun _ => ev_aload_n dL_ranked_0 rfl) ?_
    refine ex_s (fun _ => ev_iconst dL_ranked_1 ic0) ?_
    refine ex_s (fun _ => ev_aload_n dL_ranked_2 rfl) ?_
    refine ex_s (fun _ => ev_iload_n dL_ranked_3 rfl) ?_
    refine ex_s2 (fun Z => @ev_callVc G 20 1 _ 1 mL_ranked mX11_ranked 4 96 1 0 3 [some (.ref 0), some (.int x), some (.ref 125), none] [.int x] [.int (nI 0), .ref 125] w w1 "java/util/NoSuchElementException" Z kL_96 co0 hB dL_ranked_4 rfl (by decide) (by decide) rfl [] [] (0, 9, 12, 52) rfl hp_nil (by decide) (by decide) (by decide) xc_52 xt_NoSuchElem 1 (Or.inl ⟨3, rfl, dL_ranked_12, rfl⟩) (by decide) rfl) ?_
    refine ex_s (fun _ => ev_iconst dL_ranked_13 ic1) ?_
    exact ⟨_, _, ⟨rfl, hA, fun k hk => fr_out hf hk, fun z => absurd (show (1 : Nat) = 0 from z) (by decide)⟩, ev_iret dL_ranked_14 rfl rfl rfl rfl⟩
theorem le_heaviest {A : AS} {x : Int32} : ((qHv (aS A) x, A)).1.1 ≤ 1 := by
  show (qHv (aS A) x).1 ≤ 1
  unfold qHv
  (repeat' split) <;> exact Nat.le_of_ble_eq_true rfl
set_option maxRecDepth 4000 in
theorem hL_heaviest {G : GX} {w : WS} {A : AS} (h : aX A w) (x : Int32) : ∃ o w2, pWr ((qHv (aS A) x, A)) w o w2 ∧ Big G 20 1 mL_heaviest [.ref 0, .int x, .ref 125] w o w2 := by
  obtain ⟨o, w1, ⟨ho, hA, hf⟩, hB⟩ := fX11_heaviest (G := G) h x
  have hle : ((qHv (aS A) x, A)).1.1 ≤ 1 := le_heaviest
  generalize (qHv (aS A) x, A) = r at ho hA hle ⊢
  obtain ⟨⟨k, v⟩, A2⟩ := r
  have hle : k ≤ 1 := hle
  rcases Nat.eq_zero_or_pos k with rfl | hk
  · have hB := big_o (show o = .inl (some (.int v)) from ho) hB
    refine bx_of (P := pWr ((0, v), A2) w) (by decide +kernel) (Nat.le_of_ble_eq_true rfl) ?_
    show Ex G 20 1 mL_heaviest 0 [some (.ref 0), some (.int x), some (.ref 125), none] [] w _
    refine ex_s (fun _ => ev_aload_n dL_heaviest_0 rfl) ?_
    refine ex_s (fun _ => ev_iconst dL_heaviest_1 ic0) ?_
    refine ex_s (fun _ => ev_aload_n dL_heaviest_2 rfl) ?_
    refine ex_s (fun _ => ev_iload_n dL_heaviest_3 rfl) ?_
    refine ex_s2 (fun _ => ev_callV kL_99 co0 hB dL_heaviest_4 rfl (by decide) (by decide) rfl) ?_
    refine ex_s (fun _ => ev_i2l dL_heaviest_7) ?_
    refine ex_s (fun _ => ev_lastore dL_heaviest_8 rfl) ?_
    refine ex_s (fun _ => ev_goto (tgt := 15) dL_heaviest_9 (by decide)) ?_
    refine ex_s (fun _ => ev_iconst dL_heaviest_15 ic0) ?_
    exact ⟨_, (w1.1, v.toInt64, w1.2.2), ⟨rfl, aX_of rfl hA, fun k hk => fr_out hf hk, fun _ => rfl⟩, ev_iret dL_heaviest_16 rfl rfl rfl rfl⟩
  · have hk1 : 1 ≤ k := hk
    obtain rfl : k = 1 := by omega
    skip
    have hB := big_o (show o = .inr "java/util/NoSuchElementException" from ho) hB
    refine bx_of (P := pWr ((1, v), A2) w) (by decide +kernel) (Nat.le_of_ble_eq_true rfl) ?_
    show Ex G 20 1 mL_heaviest 0 [some (.ref 0), some (.int x), some (.ref 125), none] [] w _
    refine ex_s (fun _ => ev_aload_n dL_heaviest_0 rfl) ?_
    refine ex_s (fun _ => ev_iconst dL_heaviest_1 ic0) ?_
    refine ex_s (fun _ => ev_aload_n dL_heaviest_2 rfl) ?_
    refine ex_s (fun _ => ev_iload_n dL_heaviest_3 rfl) ?_
    refine ex_s2 (fun Z => @ev_callVc G 20 1 _ 1 mL_heaviest mX11_heaviest 4 99 1 0 3 [some (.ref 0), some (.int x), some (.ref 125), none] [.int x] [.int (nI 0), .ref 125] w w1 "java/util/NoSuchElementException" Z kL_99 co0 hB dL_heaviest_4 rfl (by decide) (by decide) rfl [] [] (0, 9, 12, 52) rfl hp_nil (by decide) (by decide) (by decide) xc_52 xt_NoSuchElem 1 (Or.inl ⟨3, rfl, dL_heaviest_12, rfl⟩) (by decide) rfl) ?_
    refine ex_s (fun _ => ev_iconst dL_heaviest_13 ic1) ?_
    exact ⟨_, _, ⟨rfl, hA, fun k hk => fr_out hf hk, fun z => absurd (show (1 : Nat) = 0 from z) (by decide)⟩, ev_iret dL_heaviest_14 rfl rfl rfl rfl⟩
theorem le_row {A : AS} {x : Int32} : (spRow A x).1.1 ≤ 1 := by
  unfold spRow
  (repeat' split) <;> exact Nat.le_of_ble_eq_true rfl
set_option maxRecDepth 4000 in
theorem hL_row {G : GX} {w : WS} {A : AS} (h : aX A w) (x : Int32) : ∃ o w2, pWr (spRow A x) w o w2 ∧ Big G 20 1 mL_row [.ref 0, .int x, .ref 125] w o w2 := by
  obtain ⟨o, w1, ⟨ho, hA, hf⟩, hB⟩ := fX11_row (G := G) h x
  have hle : (spRow A x).1.1 ≤ 1 := le_row
  generalize spRow A x = r at ho hA hle ⊢
  obtain ⟨⟨k, v⟩, A2⟩ := r
  have hle : k ≤ 1 := hle
  rcases Nat.eq_zero_or_pos k with rfl | hk
  · have hB := big_o (show o = .inl (some (.int v)) from ho) hB
    refine bx_of (P := pWr ((0, v), A2) w) (by decide +kernel) (Nat.le_of_ble_eq_true rfl) ?_
    show Ex G 20 1 mL_row 0 [some (.ref 0), some (.int x), some (.ref 125), none] [] w _
    refine ex_s (fun _ => ev_aload_n dL_row_0 rfl) ?_
    refine ex_s (fun _ => ev_iconst dL_row_1 ic0) ?_
    refine ex_s (fun _ => ev_aload_n dL_row_2 rfl) ?_
    refine ex_s (fun _ => ev_iload_n dL_row_3 rfl) ?_
    refine ex_s2 (fun _ => ev_callV kL_102 co0 hB dL_row_4 rfl (by decide) (by decide) rfl) ?_
    refine ex_s (fun _ => ev_i2l dL_row_7) ?_
    refine ex_s (fun _ => ev_lastore dL_row_8 rfl) ?_
    refine ex_s (fun _ => ev_goto (tgt := 15) dL_row_9 (by decide)) ?_
    refine ex_s (fun _ => ev_iconst dL_row_15 ic0) ?_
    exact ⟨_, (w1.1, v.toInt64, w1.2.2), ⟨rfl, aX_of rfl hA, fun k hk => fr_out hf hk, fun _ => rfl⟩, ev_iret dL_row_16 rfl rfl rfl rfl⟩
  · have hk1 : 1 ≤ k := hk
    obtain rfl : k = 1 := by omega
    skip
    have hB := big_o (show o = .inr "java/lang/IndexOutOfBoundsException" from ho) hB
    refine bx_of (P := pWr ((1, v), A2) w) (by decide +kernel) (Nat.le_of_ble_eq_true rfl) ?_
    show Ex G 20 1 mL_row 0 [some (.ref 0), some (.int x), some (.ref 125), none] [] w _
    refine ex_s (fun _ => ev_aload_n dL_row_0 rfl) ?_
    refine ex_s (fun _ => ev_iconst dL_row_1 ic0) ?_
    refine ex_s (fun _ => ev_aload_n dL_row_2 rfl) ?_
    refine ex_s (fun _ => ev_iload_n dL_row_3 rfl) ?_
    refine ex_s2 (fun Z => @ev_callVc G 20 1 _ 1 mL_row mX11_row 4 102 1 0 3 [some (.ref 0), some (.int x), some (.ref 125), none] [.int x] [.int (nI 0), .ref 125] w w1 "java/lang/IndexOutOfBoundsException" Z kL_102 co0 hB dL_row_4 rfl (by decide) (by decide) rfl [] [] (0, 9, 12, 13) rfl hp_nil (by decide) (by decide) (by decide) xc_13 xt_IndexOutOf 1 (Or.inl ⟨3, rfl, dL_row_12, rfl⟩) (by decide) rfl) ?_
    refine ex_s (fun _ => ev_iconst dL_row_13 ic1) ?_
    exact ⟨_, _, ⟨rfl, hA, fun k hk => fr_out hf hk, fun z => absurd (show (1 : Nat) = 0 from z) (by decide)⟩, ev_iret dL_row_14 rfl rfl rfl rfl⟩
theorem le_tell {A : AS} {x : Int32} : (spTell A x).1.1 ≤ 1 := by
  unfold spTell
  (repeat' split) <;> exact Nat.le_of_ble_eq_true rfl
set_option maxRecDepth 4000 in
theorem hL_tell {G : GX} {w : WS} {A : AS} (h : aX A w) (x : Int32) : ∃ o w2, pWr (spTell A x) w o w2 ∧ Big G 20 1 mL_tell [.ref 0, .int x, .ref 125] w o w2 := by
  obtain ⟨o, w1, ⟨ho, hA, hf⟩, hB⟩ := fX11_tell (G := G) h x
  have hle : (spTell A x).1.1 ≤ 1 := le_tell
  generalize spTell A x = r at ho hA hle ⊢
  obtain ⟨⟨k, v⟩, A2⟩ := r
  have hle : k ≤ 1 := hle
  rcases Nat.eq_zero_or_pos k with rfl | hk
  · have hB := big_o (show o = .inl (some (.int v)) from ho) hB
    refine bx_of (P := pWr ((0, v), A2) w) (by decide +kernel) (Nat.le_of_ble_eq_true rfl) ?_
    show Ex G 20 1 mL_tell 0 [some (.ref 0), some (.int x), some (.ref 125), none] [] w _
    refine ex_s (fun _ => ev_aload_n dL_tell_0 rfl) ?_
    refine ex_s (fun _ => ev_iconst dL_tell_1 ic0) ?_
    refine ex_s (fun _ => ev_aload_n dL_tell_2 rfl) ?_
    refine ex_s (fun _ => ev_iload_n dL_tell_3 rfl) ?_
    refine ex_s2 (fun _ => ev_callV kL_105 co0 hB dL_tell_4 rfl (by decide) (by decide) rfl) ?_
    refine ex_s (fun _ => ev_i2l dL_tell_7) ?_
    refine ex_s (fun _ => ev_lastore dL_tell_8 rfl) ?_
    refine ex_s (fun _ => ev_goto (tgt := 15) dL_tell_9 (by decide)) ?_
    refine ex_s (fun _ => ev_iconst dL_tell_15 ic0) ?_
    exact ⟨_, (w1.1, v.toInt64, w1.2.2), ⟨rfl, aX_of rfl hA, fun k hk => fr_out hf hk, fun _ => rfl⟩, ev_iret dL_tell_16 rfl rfl rfl rfl⟩
  · have hk1 : 1 ≤ k := hk
    obtain rfl : k = 1 := by omega
    skip
    have hB := big_o (show o = .inr "java/lang/IndexOutOfBoundsException" from ho) hB
    refine bx_of (P := pWr ((1, v), A2) w) (by decide +kernel) (Nat.le_of_ble_eq_true rfl) ?_
    show Ex G 20 1 mL_tell 0 [some (.ref 0), some (.int x), some (.ref 125), none] [] w _
    refine ex_s (fun _ => ev_aload_n dL_tell_0 rfl) ?_
    refine ex_s (fun _ => ev_iconst dL_tell_1 ic0) ?_
    refine ex_s (fun _ => ev_aload_n dL_tell_2 rfl) ?_
    refine ex_s (fun _ => ev_iload_n dL_tell_3 rfl) ?_
    refine ex_s2 (fun Z => @ev_callVc G 20 1 _ 1 mL_tell mX11_tell 4 105 1 0 3 [some (.ref 0), some (.int x), some (.ref 125), none] [.int x] [.int (nI 0), .ref 125] w w1 "java/lang/IndexOutOfBoundsException" Z kL_105 co0 hB dL_tell_4 rfl (by decide) (by decide) rfl [] [] (0, 9, 12, 13) rfl hp_nil (by decide) (by decide) (by decide) xc_13 xt_IndexOutOf 1 (Or.inl ⟨3, rfl, dL_tell_12, rfl⟩) (by decide) rfl) ?_
    refine ex_s (fun _ => ev_iconst dL_tell_13 ic1) ?_
    exact ⟨_, _, ⟨rfl, hA, fun k hk => fr_out hf hk, fun z => absurd (show (1 : Nat) = 0 from z) (by decide)⟩, ev_iret dL_tell_14 rfl rfl rfl rfl⟩
theorem le_character {A : AS} {x : Int32} : (spChar A x).1.1 ≤ 1 := by
  unfold spChar
  (repeat' split) <;> exact Nat.le_of_ble_eq_true rfl
set_option maxRecDepth 4000 in
theorem hL_character {G : GX} {w : WS} {A : AS} (h : aX A w) (x : Int32) : ∃ o w2, pWr (spChar A x) w o w2 ∧ Big G 20 1 mL_character [.ref 0, .int x, .ref 125] w o w2 := by
  obtain ⟨o, w1, ⟨ho, hA, hf⟩, hB⟩ := fX11_character (G := G) h x
  have hle : (spChar A x).1.1 ≤ 1 := le_character
  generalize spChar A x = r at ho hA hle ⊢
  obtain ⟨⟨k, v⟩, A2⟩ := r
  have hle : k ≤ 1 := hle
  rcases Nat.eq_zero_or_pos k with rfl | hk
  · have hB := big_o (show o = .inl (some (.int v)) from ho) hB
    refine bx_of (P := pWr ((0, v), A2) w) (by decide +kernel) (Nat.le_of_ble_eq_true rfl) ?_
    show Ex G 20 1 mL_character 0 [some (.ref 0), some (.int x), some (.ref 125), none] [] w _
    refine ex_s (fun _ => ev_aload_n dL_character_0 rfl) ?_
    refine ex_s (fun _ => ev_iconst dL_character_1 ic0) ?_
    refine ex_s (fun _ => ev_aload_n dL_character_2 rfl) ?_
    refine ex_s (fun _ => ev_iload_n dL_character_3 rfl) ?_
    refine ex_s2 (fun _ => ev_callV kL_108 co0 hB dL_character_4 rfl (by decide) (by decide) rfl) ?_
    refine ex_s (fun _ => ev_i2l dL_character_7) ?_
    refine ex_s (fun _ => ev_lastore dL_character_8 rfl) ?_
    refine ex_s (fun _ => ev_goto (tgt := 15) dL_character_9 (by decide)) ?_
    refine ex_s (fun _ => ev_iconst dL_character_15 ic0) ?_
    exact ⟨_, (w1.1, v.toInt64, w1.2.2), ⟨rfl, aX_of rfl hA, fun k hk => fr_out hf hk, fun _ => rfl⟩, ev_iret dL_character_16 rfl rfl rfl rfl⟩
  · have hk1 : 1 ≤ k := hk
    obtain rfl : k = 1 := by omega
    skip
    have hB := big_o (show o = .inr "java/util/NoSuchElementException" from ho) hB
    refine bx_of (P := pWr ((1, v), A2) w) (by decide +kernel) (Nat.le_of_ble_eq_true rfl) ?_
    show Ex G 20 1 mL_character 0 [some (.ref 0), some (.int x), some (.ref 125), none] [] w _
    refine ex_s (fun _ => ev_aload_n dL_character_0 rfl) ?_
    refine ex_s (fun _ => ev_iconst dL_character_1 ic0) ?_
    refine ex_s (fun _ => ev_aload_n dL_character_2 rfl) ?_
    refine ex_s (fun _ => ev_iload_n dL_character_3 rfl) ?_
    refine ex_s2 (fun Z => @ev_callVc G 20 1 _ 1 mL_character mX11_character 4 108 1 0 3 [some (.ref 0), some (.int x), some (.ref 125), none] [.int x] [.int (nI 0), .ref 125] w w1 "java/util/NoSuchElementException" Z kL_108 co0 hB dL_character_4 rfl (by decide) (by decide) rfl [] [] (0, 9, 12, 52) rfl hp_nil (by decide) (by decide) (by decide) xc_52 xt_NoSuchElem 1 (Or.inl ⟨3, rfl, dL_character_12, rfl⟩) (by decide) rfl) ?_
    refine ex_s (fun _ => ev_iconst dL_character_13 ic1) ?_
    exact ⟨_, _, ⟨rfl, hA, fun k hk => fr_out hf hk, fun z => absurd (show (1 : Nat) = 0 from z) (by decide)⟩, ev_iret dL_character_14 rfl rfl rfl rfl⟩
theorem le_account {A : AS} {x : Int32} : (spAcc A x).1.1 ≤ 1 := by
  unfold spAcc
  (repeat' split) <;> exact Nat.le_of_ble_eq_true rfl
set_option maxRecDepth 4000 in
theorem hL_account {G : GX} {w : WS} {A : AS} (h : aX A w) (x : Int32) : ∃ o w2, pWr (spAcc A x) w o w2 ∧ Big G 20 1 mL_account [.ref 0, .int x, .ref 125] w o w2 := by
  obtain ⟨o, w1, ⟨ho, hA, hf⟩, hB⟩ := fX11_account (G := G) h x
  have hle : (spAcc A x).1.1 ≤ 1 := le_account
  generalize spAcc A x = r at ho hA hle ⊢
  obtain ⟨⟨k, v⟩, A2⟩ := r
  have hle : k ≤ 1 := hle
  rcases Nat.eq_zero_or_pos k with rfl | hk
  · have hB := big_o (show o = .inl (some (.int v)) from ho) hB
    refine bx_of (P := pWr ((0, v), A2) w) (by decide +kernel) (Nat.le_of_ble_eq_true rfl) ?_
    show Ex G 20 1 mL_account 0 [some (.ref 0), some (.int x), some (.ref 125), none] [] w _
    refine ex_s (fun _ => ev_aload_n dL_account_0 rfl) ?_
    refine ex_s (fun _ => ev_iconst dL_account_1 ic0) ?_
    refine ex_s (fun _ => ev_aload_n dL_account_2 rfl) ?_
    refine ex_s (fun _ => ev_iload_n dL_account_3 rfl) ?_
    refine ex_s2 (fun _ => ev_callV kL_118 co0 hB dL_account_4 rfl (by decide) (by decide) rfl) ?_
    refine ex_s (fun _ => ev_i2l dL_account_7) ?_
    refine ex_s (fun _ => ev_lastore dL_account_8 rfl) ?_
    refine ex_s (fun _ => ev_goto (tgt := 15) dL_account_9 (by decide)) ?_
    refine ex_s (fun _ => ev_iconst dL_account_15 ic0) ?_
    exact ⟨_, (w1.1, v.toInt64, w1.2.2), ⟨rfl, aX_of rfl hA, fun k hk => fr_out hf hk, fun _ => rfl⟩, ev_iret dL_account_16 rfl rfl rfl rfl⟩
  · have hk1 : 1 ≤ k := hk
    obtain rfl : k = 1 := by omega
    skip
    have hB := big_o (show o = .inr "java/lang/IllegalArgumentException" from ho) hB
    refine bx_of (P := pWr ((1, v), A2) w) (by decide +kernel) (Nat.le_of_ble_eq_true rfl) ?_
    show Ex G 20 1 mL_account 0 [some (.ref 0), some (.int x), some (.ref 125), none] [] w _
    refine ex_s (fun _ => ev_aload_n dL_account_0 rfl) ?_
    refine ex_s (fun _ => ev_iconst dL_account_1 ic0) ?_
    refine ex_s (fun _ => ev_aload_n dL_account_2 rfl) ?_
    refine ex_s (fun _ => ev_iload_n dL_account_3 rfl) ?_
    refine ex_s2 (fun Z => @ev_callVc G 20 1 _ 1 mL_account mX11_account 4 118 1 0 3 [some (.ref 0), some (.int x), some (.ref 125), none] [.int x] [.int (nI 0), .ref 125] w w1 "java/lang/IllegalArgumentException" Z kL_118 co0 hB dL_account_4 rfl (by decide) (by decide) rfl [] [] (0, 9, 12, 15) rfl hp_nil (by decide) (by decide) (by decide) xc_15 xt_IllegalArg 1 (Or.inl ⟨3, rfl, dL_account_12, rfl⟩) (by decide) rfl) ?_
    refine ex_s (fun _ => ev_iconst dL_account_13 ic1) ?_
    exact ⟨_, _, ⟨rfl, hA, fun k hk => fr_out hf hk, fun z => absurd (show (1 : Nat) = 0 from z) (by decide)⟩, ev_iret dL_account_14 rfl rfl rfl rfl⟩
theorem le_append {A : AS} {c : Nat} : (spApp A c).1.1 ≤ 2 := by
  unfold spApp
  (repeat' split) <;> exact Nat.le_of_ble_eq_true rfl
set_option maxRecDepth 4000 in
theorem hL_append {G : GX} {w : WS} {A : AS} (h : aX A w) {c : Nat} (hc : c < 65536) : ∃ o w2, pWr (spApp A c) w o w2 ∧ Big G 20 1 mL_append [.ref 0, .int (nI c), .ref 125] w o w2 := by
  obtain ⟨o, w1, ⟨ho, hA, hf⟩, hB⟩ := fX11_append (G := G) h hc
  have hle : (spApp A c).1.1 ≤ 2 := le_append
  generalize spApp A c = r at ho hA hle ⊢
  obtain ⟨⟨k, v⟩, A2⟩ := r
  have hle : k ≤ 2 := hle
  rcases Nat.eq_zero_or_pos k with rfl | hk
  · have hB := big_o (show o = .inl (some (.int v)) from ho) hB
    refine bx_of (P := pWr ((0, v), A2) w) (by decide +kernel) (Nat.le_of_ble_eq_true rfl) ?_
    show Ex G 20 1 mL_append 0 [some (.ref 0), some (.int (nI c)), some (.ref 125), none] [] w _
    refine ex_s (fun _ => ev_aload_n dL_append_0 rfl) ?_
    refine ex_s (fun _ => ev_iconst dL_append_1 ic0) ?_
    refine ex_s (fun _ => ev_aload_n dL_append_2 rfl) ?_
    refine ex_s (fun _ => ev_iload_n dL_append_3 rfl) ?_
    refine ex_s2 (fun _ => ev_callV kL_121 co0 hB dL_append_4 rfl (by decide) (by decide) rfl) ?_
    refine ex_s (fun _ => ev_i2l dL_append_7) ?_
    refine ex_s (fun _ => ev_lastore dL_append_8 rfl) ?_
    refine ex_s (fun _ => ev_goto (tgt := 18) dL_append_9 (by decide)) ?_
    refine ex_s (fun _ => ev_iconst dL_append_18 ic0) ?_
    exact ⟨_, (w1.1, v.toInt64, w1.2.2), ⟨rfl, aX_of rfl hA, fun k hk => fr_out hf hk, fun _ => rfl⟩, ev_iret dL_append_19 rfl rfl rfl rfl⟩
  · have hk1 : 1 ≤ k := hk
    rcases (by omega : k = 1 ∨ k = 2) with rfl | rfl
    · have hB := big_o (show o = .inr "java/lang/IllegalArgumentException" from ho) hB
      refine bx_of (P := pWr ((1, v), A2) w) (by decide +kernel) (Nat.le_of_ble_eq_true rfl) ?_
      show Ex G 20 1 mL_append 0 [some (.ref 0), some (.int (nI c)), some (.ref 125), none] [] w _
      refine ex_s (fun _ => ev_aload_n dL_append_0 rfl) ?_
      refine ex_s (fun _ => ev_iconst dL_append_1 ic0) ?_
      refine ex_s (fun _ => ev_aload_n dL_append_2 rfl) ?_
      refine ex_s (fun _ => ev_iload_n dL_append_3 rfl) ?_
      refine ex_s2 (fun Z => @ev_callVc G 20 1 _ 1 mL_append mX11_append 4 121 1 0 3 [some (.ref 0), some (.int (nI c)), some (.ref 125), none] [.int (nI c)] [.int (nI 0), .ref 125] w w1 "java/lang/IllegalArgumentException" Z kL_121 co0 hB dL_append_4 rfl (by decide) (by decide) rfl [] [(0, 9, 15, 29)] (0, 9, 12, 15) rfl hp_nil (by decide) (by decide) (by decide) xc_15 xt_IllegalArg 1 (Or.inl ⟨3, rfl, dL_append_12, rfl⟩) (by decide) rfl) ?_
      refine ex_s (fun _ => ev_iconst dL_append_13 ic1) ?_
      exact ⟨_, _, ⟨rfl, hA, fun k hk => fr_out hf hk, fun z => absurd (show (1 : Nat) = 0 from z) (by decide)⟩, ev_iret dL_append_14 rfl rfl rfl rfl⟩
    · have hB := big_o (show o = .inr "java/lang/IllegalStateException" from ho) hB
      refine bx_of (P := pWr ((2, v), A2) w) (by decide +kernel) (Nat.le_of_ble_eq_true rfl) ?_
      show Ex G 20 1 mL_append 0 [some (.ref 0), some (.int (nI c)), some (.ref 125), none] [] w _
      refine ex_s (fun _ => ev_aload_n dL_append_0 rfl) ?_
      refine ex_s (fun _ => ev_iconst dL_append_1 ic0) ?_
      refine ex_s (fun _ => ev_aload_n dL_append_2 rfl) ?_
      refine ex_s (fun _ => ev_iload_n dL_append_3 rfl) ?_
      refine ex_s2 (fun Z => @ev_callVc G 20 1 _ 1 mL_append mX11_append 4 121 1 0 3 [some (.ref 0), some (.int (nI c)), some (.ref 125), none] [.int (nI c)] [.int (nI 0), .ref 125] w w1 "java/lang/IllegalStateException" Z kL_121 co0 hB dL_append_4 rfl (by decide) (by decide) rfl [(0, 9, 12, 15)] [] (0, 9, 15, 29) rfl (hp_cons (by decide) xc_15 nc_IllegalSta_IllegalArg hp_nil) (by decide) (by decide) (by decide) xc_29 xt_IllegalSta 1 (Or.inl ⟨3, rfl, dL_append_15, rfl⟩) (by decide) rfl) ?_
      refine ex_s (fun _ => ev_iconst dL_append_16 ic2) ?_
      exact ⟨_, _, ⟨rfl, hA, fun k hk => fr_out hf hk, fun z => absurd (show (2 : Nat) = 0 from z) (by decide)⟩, ev_iret dL_append_17 rfl rfl rfl rfl⟩
theorem le_read {A : AS} : (spRead A).1.1 ≤ 3 := by
  unfold spRead
  (repeat' split) <;> exact Nat.le_of_ble_eq_true rfl
set_option maxRecDepth 4000 in
theorem hL_read {G : GX} {w : WS} {A : AS} (h : aX A w) : ∃ o w2, pWr (spRead A) w o w2 ∧ Big G 20 1 mL_read [.ref 0, .ref 125] w o w2 := by
  obtain ⟨o, w1, ⟨ho, hA, hf⟩, hB⟩ := fX11_read (G := G) h
  have hle : (spRead A).1.1 ≤ 3 := le_read
  generalize spRead A = r at ho hA hle ⊢
  obtain ⟨⟨k, v⟩, A2⟩ := r
  have hle : k ≤ 3 := hle
  rcases Nat.eq_zero_or_pos k with rfl | hk
  · have hB := big_o (show o = .inl (some (.int v)) from ho) hB
    refine bx_of (P := pWr ((0, v), A2) w) (by decide +kernel) (Nat.le_of_ble_eq_true rfl) ?_
    show Ex G 20 1 mL_read 0 [some (.ref 0), some (.ref 125), none] [] w _
    refine ex_s (fun _ => ev_aload_n dL_read_0 rfl) ?_
    refine ex_s (fun _ => ev_iconst dL_read_1 ic0) ?_
    refine ex_s (fun _ => ev_aload_n dL_read_2 rfl) ?_
    refine ex_s2 (fun _ => ev_callV kL_125 co0 hB dL_read_3 rfl (by decide) (by decide) rfl) ?_
    refine ex_s (fun _ => ev_i2l dL_read_6) ?_
    refine ex_s (fun _ => ev_lastore dL_read_7 rfl) ?_
    refine ex_s (fun _ => ev_goto (tgt := 20) dL_read_8 (by decide)) ?_
    refine ex_s (fun _ => ev_iconst dL_read_20 ic0) ?_
    exact ⟨_, (w1.1, v.toInt64, w1.2.2), ⟨rfl, aX_of rfl hA, fun k hk => fr_out hf hk, fun _ => rfl⟩, ev_iret dL_read_21 rfl rfl rfl rfl⟩
  · have hk1 : 1 ≤ k := hk
    rcases (by omega : k = 1 ∨ k = 2 ∨ k = 3) with rfl | rfl | rfl
    · have hB := big_o (show o = .inr "java/lang/IllegalArgumentException" from ho) hB
      refine bx_of (P := pWr ((1, v), A2) w) (by decide +kernel) (Nat.le_of_ble_eq_true rfl) ?_
      show Ex G 20 1 mL_read 0 [some (.ref 0), some (.ref 125), none] [] w _
      refine ex_s (fun _ => ev_aload_n dL_read_0 rfl) ?_
      refine ex_s (fun _ => ev_iconst dL_read_1 ic0) ?_
      refine ex_s (fun _ => ev_aload_n dL_read_2 rfl) ?_
      refine ex_s2 (fun Z => @ev_callVc G 20 1 _ 1 mL_read mX11_read 3 125 0 0 2 [some (.ref 0), some (.ref 125), none] [] [.int (nI 0), .ref 125] w w1 "java/lang/IllegalArgumentException" Z kL_125 co0 hB dL_read_3 rfl (by decide) (by decide) rfl [] [(0, 8, 14, 29), (0, 8, 17, 17)] (0, 8, 11, 15) rfl hp_nil (by decide) (by decide) (by decide) xc_15 xt_IllegalArg 1 (Or.inl ⟨2, rfl, dL_read_11, rfl⟩) (by decide) rfl) ?_
      refine ex_s (fun _ => ev_iconst dL_read_12 ic1) ?_
      exact ⟨_, _, ⟨rfl, hA, fun k hk => fr_out hf hk, fun z => absurd (show (1 : Nat) = 0 from z) (by decide)⟩, ev_iret dL_read_13 rfl rfl rfl rfl⟩
    · have hB := big_o (show o = .inr "java/lang/IllegalStateException" from ho) hB
      refine bx_of (P := pWr ((2, v), A2) w) (by decide +kernel) (Nat.le_of_ble_eq_true rfl) ?_
      show Ex G 20 1 mL_read 0 [some (.ref 0), some (.ref 125), none] [] w _
      refine ex_s (fun _ => ev_aload_n dL_read_0 rfl) ?_
      refine ex_s (fun _ => ev_iconst dL_read_1 ic0) ?_
      refine ex_s (fun _ => ev_aload_n dL_read_2 rfl) ?_
      refine ex_s2 (fun Z => @ev_callVc G 20 1 _ 1 mL_read mX11_read 3 125 0 0 2 [some (.ref 0), some (.ref 125), none] [] [.int (nI 0), .ref 125] w w1 "java/lang/IllegalStateException" Z kL_125 co0 hB dL_read_3 rfl (by decide) (by decide) rfl [(0, 8, 11, 15)] [(0, 8, 17, 17)] (0, 8, 14, 29) rfl (hp_cons (by decide) xc_15 nc_IllegalSta_IllegalArg hp_nil) (by decide) (by decide) (by decide) xc_29 xt_IllegalSta 1 (Or.inl ⟨2, rfl, dL_read_14, rfl⟩) (by decide) rfl) ?_
      refine ex_s (fun _ => ev_iconst dL_read_15 ic2) ?_
      exact ⟨_, _, ⟨rfl, hA, fun k hk => fr_out hf hk, fun z => absurd (show (2 : Nat) = 0 from z) (by decide)⟩, ev_iret dL_read_16 rfl rfl rfl rfl⟩
    · have hB := big_o (show o = .inr "java/lang/UnsupportedOperationException" from ho) hB
      refine bx_of (P := pWr ((3, v), A2) w) (by decide +kernel) (Nat.le_of_ble_eq_true rfl) ?_
      show Ex G 20 1 mL_read 0 [some (.ref 0), some (.ref 125), none] [] w _
      refine ex_s (fun _ => ev_aload_n dL_read_0 rfl) ?_
      refine ex_s (fun _ => ev_iconst dL_read_1 ic0) ?_
      refine ex_s (fun _ => ev_aload_n dL_read_2 rfl) ?_
      refine ex_s2 (fun Z => @ev_callVc G 20 1 _ 1 mL_read mX11_read 3 125 0 0 2 [some (.ref 0), some (.ref 125), none] [] [.int (nI 0), .ref 125] w w1 "java/lang/UnsupportedOperationException" Z kL_125 co0 hB dL_read_3 rfl (by decide) (by decide) rfl [(0, 8, 11, 15), (0, 8, 14, 29)] [] (0, 8, 17, 17) rfl (hp_cons (by decide) xc_15 nc_Unsupporte_IllegalArg (hp_cons (by decide) xc_29 nc_Unsupporte_IllegalSta hp_nil)) (by decide) (by decide) (by decide) xc_17 xt_Unsupporte 1 (Or.inl ⟨2, rfl, dL_read_17, rfl⟩) (by decide) rfl) ?_
      refine ex_s (fun _ => ev_iconst dL_read_18 ic3) ?_
      exact ⟨_, _, ⟨rfl, hA, fun k hk => fr_out hf hk, fun z => absurd (show (3 : Nat) = 0 from z) (by decide)⟩, ev_iret dL_read_19 rfl rfl rfl rfl⟩
theorem le_errorPosition {A : AS} : (spErr A).1.1 ≤ 1 := by
  unfold spErr
  (repeat' split) <;> exact Nat.le_of_ble_eq_true rfl
set_option maxRecDepth 4000 in
theorem hL_errorPosition {G : GX} {w : WS} {A : AS} (h : aX A w) : ∃ o w2, pWr (spErr A) w o w2 ∧ Big G 20 1 mL_errorPosition [.ref 0, .ref 125] w o w2 := by
  obtain ⟨o, w1, ⟨ho, hA, hf⟩, hB⟩ := fX11_errorPosition (G := G) h
  have hle : (spErr A).1.1 ≤ 1 := le_errorPosition
  generalize spErr A = r at ho hA hle ⊢
  obtain ⟨⟨k, v⟩, A2⟩ := r
  have hle : k ≤ 1 := hle
  rcases Nat.eq_zero_or_pos k with rfl | hk
  · have hB := big_o (show o = .inl (some (.int v)) from ho) hB
    refine bx_of (P := pWr ((0, v), A2) w) (by decide +kernel) (Nat.le_of_ble_eq_true rfl) ?_
    show Ex G 20 1 mL_errorPosition 0 [some (.ref 0), some (.ref 125), none] [] w _
    refine ex_s (fun _ => ev_aload_n dL_errorPosition_0 rfl) ?_
    refine ex_s (fun _ => ev_iconst dL_errorPosition_1 ic0) ?_
    refine ex_s (fun _ => ev_aload_n dL_errorPosition_2 rfl) ?_
    refine ex_s2 (fun _ => ev_callV kL_128 co0 hB dL_errorPosition_3 rfl (by decide) (by decide) rfl) ?_
    refine ex_s (fun _ => ev_i2l dL_errorPosition_6) ?_
    refine ex_s (fun _ => ev_lastore dL_errorPosition_7 rfl) ?_
    refine ex_s (fun _ => ev_goto (tgt := 14) dL_errorPosition_8 (by decide)) ?_
    refine ex_s (fun _ => ev_iconst dL_errorPosition_14 ic0) ?_
    exact ⟨_, (w1.1, v.toInt64, w1.2.2), ⟨rfl, aX_of rfl hA, fun k hk => fr_out hf hk, fun _ => rfl⟩, ev_iret dL_errorPosition_15 rfl rfl rfl rfl⟩
  · have hk1 : 1 ≤ k := hk
    obtain rfl : k = 1 := by omega
    skip
    have hB := big_o (show o = .inr "java/util/NoSuchElementException" from ho) hB
    refine bx_of (P := pWr ((1, v), A2) w) (by decide +kernel) (Nat.le_of_ble_eq_true rfl) ?_
    show Ex G 20 1 mL_errorPosition 0 [some (.ref 0), some (.ref 125), none] [] w _
    refine ex_s (fun _ => ev_aload_n dL_errorPosition_0 rfl) ?_
    refine ex_s (fun _ => ev_iconst dL_errorPosition_1 ic0) ?_
    refine ex_s (fun _ => ev_aload_n dL_errorPosition_2 rfl) ?_
    refine ex_s2 (fun Z => @ev_callVc G 20 1 _ 1 mL_errorPosition mX11_errorPosition 3 128 0 0 2 [some (.ref 0), some (.ref 125), none] [] [.int (nI 0), .ref 125] w w1 "java/util/NoSuchElementException" Z kL_128 co0 hB dL_errorPosition_3 rfl (by decide) (by decide) rfl [] [] (0, 8, 11, 52) rfl hp_nil (by decide) (by decide) (by decide) xc_52 xt_NoSuchElem 1 (Or.inl ⟨2, rfl, dL_errorPosition_11, rfl⟩) (by decide) rfl) ?_
    refine ex_s (fun _ => ev_iconst dL_errorPosition_12 ic1) ?_
    exact ⟨_, _, ⟨rfl, hA, fun k hk => fr_out hf hk, fun z => absurd (show (1 : Nat) = 0 from z) (by decide)⟩, ev_iret dL_errorPosition_13 rfl rfl rfl rfl⟩
theorem le_reason {A : AS} {x : Int32} {b : Bool} : (spRea A x b).1.1 ≤ 2 := by
  unfold spRea
  (repeat' split) <;> exact Nat.le_of_ble_eq_true rfl
set_option maxRecDepth 4000 in
theorem hL_reason {G : GX} {w : WS} {A : AS} (h : aX A w) (x : Int32) (b : Bool) : ∃ o w2, pWr (spRea A x b) w o w2 ∧ Big G 20 1 mL_reason [.ref 0, .int x, .int (bI b), .ref 125] w o w2 := by
  obtain ⟨o, w1, ⟨ho, hA, hf⟩, hB⟩ := fX11_reason (G := G) h x b
  have hle : (spRea A x b).1.1 ≤ 2 := le_reason
  generalize spRea A x b = r at ho hA hle ⊢
  obtain ⟨⟨k, v⟩, A2⟩ := r
  have hle : k ≤ 2 := hle
  rcases Nat.eq_zero_or_pos k with rfl | hk
  · have hB := big_o (show o = .inl (some (.int v)) from ho) hB
    refine bx_of (P := pWr ((0, v), A2) w) (by decide +kernel) (Nat.le_of_ble_eq_true rfl) ?_
    show Ex G 20 1 mL_reason 0 [some (.ref 0), some (.int x), some (.int (bI b)), some (.ref 125), none] [] w _
    refine ex_s (fun _ => ev_aload_n dL_reason_0 rfl) ?_
    refine ex_s (fun _ => ev_iconst dL_reason_1 ic0) ?_
    refine ex_s (fun _ => ev_aload_n dL_reason_2 rfl) ?_
    refine ex_s (fun _ => ev_iload_n dL_reason_3 rfl) ?_
    refine ex_s (fun _ => ev_iload_n dL_reason_4 rfl) ?_
    refine ex_s2 (fun _ => ev_callV kL_131 co0 hB dL_reason_5 rfl (by decide) (by decide) rfl) ?_
    refine ex_s (fun _ => ev_i2l dL_reason_8) ?_
    refine ex_s (fun _ => ev_lastore dL_reason_9 rfl) ?_
    refine ex_s (fun _ => ev_goto (tgt := 21) dL_reason_10 (by decide)) ?_
    refine ex_s (fun _ => ev_iconst dL_reason_21 ic0) ?_
    exact ⟨_, (w1.1, v.toInt64, w1.2.2), ⟨rfl, aX_of rfl hA, fun k hk => fr_out hf hk, fun _ => rfl⟩, ev_iret dL_reason_22 rfl rfl rfl rfl⟩
  · have hk1 : 1 ≤ k := hk
    rcases (by omega : k = 1 ∨ k = 2) with rfl | rfl
    · have hB := big_o (show o = .inr "java/lang/IllegalArgumentException" from ho) hB
      refine bx_of (P := pWr ((1, v), A2) w) (by decide +kernel) (Nat.le_of_ble_eq_true rfl) ?_
      show Ex G 20 1 mL_reason 0 [some (.ref 0), some (.int x), some (.int (bI b)), some (.ref 125), none] [] w _
      refine ex_s (fun _ => ev_aload_n dL_reason_0 rfl) ?_
      refine ex_s (fun _ => ev_iconst dL_reason_1 ic0) ?_
      refine ex_s (fun _ => ev_aload_n dL_reason_2 rfl) ?_
      refine ex_s (fun _ => ev_iload_n dL_reason_3 rfl) ?_
      refine ex_s (fun _ => ev_iload_n dL_reason_4 rfl) ?_
      refine ex_s2 (fun Z => @ev_callVc G 20 1 _ 1 mL_reason mX11_reason 5 131 2 0 4 [some (.ref 0), some (.int x), some (.int (bI b)), some (.ref 125), none] [.int x, .int (bI b)] [.int (nI 0), .ref 125] w w1 "java/lang/IllegalArgumentException" Z kL_131 co0 hB dL_reason_5 rfl (by decide) (by decide) rfl [] [(0, 10, 17, 52)] (0, 10, 13, 15) rfl hp_nil (by decide) (by decide) (by decide) xc_15 xt_IllegalArg 2 (Or.inr ⟨dL_reason_13, rfl⟩) (by decide) rfl) ?_
      refine ex_s (fun _ => ev_iconst dL_reason_15 ic1) ?_
      exact ⟨_, _, ⟨rfl, hA, fun k hk => fr_out hf hk, fun z => absurd (show (1 : Nat) = 0 from z) (by decide)⟩, ev_iret dL_reason_16 rfl rfl rfl rfl⟩
    · have hB := big_o (show o = .inr "java/util/NoSuchElementException" from ho) hB
      refine bx_of (P := pWr ((2, v), A2) w) (by decide +kernel) (Nat.le_of_ble_eq_true rfl) ?_
      show Ex G 20 1 mL_reason 0 [some (.ref 0), some (.int x), some (.int (bI b)), some (.ref 125), none] [] w _
      refine ex_s (fun _ => ev_aload_n dL_reason_0 rfl) ?_
      refine ex_s (fun _ => ev_iconst dL_reason_1 ic0) ?_
      refine ex_s (fun _ => ev_aload_n dL_reason_2 rfl) ?_
      refine ex_s (fun _ => ev_iload_n dL_reason_3 rfl) ?_
      refine ex_s (fun _ => ev_iload_n dL_reason_4 rfl) ?_
      refine ex_s2 (fun Z => @ev_callVc G 20 1 _ 1 mL_reason mX11_reason 5 131 2 0 4 [some (.ref 0), some (.int x), some (.int (bI b)), some (.ref 125), none] [.int x, .int (bI b)] [.int (nI 0), .ref 125] w w1 "java/util/NoSuchElementException" Z kL_131 co0 hB dL_reason_5 rfl (by decide) (by decide) rfl [(0, 10, 13, 15)] [] (0, 10, 17, 52) rfl (hp_cons (by decide) xc_15 nc_NoSuchElem_IllegalArg hp_nil) (by decide) (by decide) (by decide) xc_52 xt_NoSuchElem 2 (Or.inr ⟨dL_reason_17, rfl⟩) (by decide) rfl) ?_
      refine ex_s (fun _ => ev_iconst dL_reason_19 ic2) ?_
      exact ⟨_, _, ⟨rfl, hA, fun k hk => fr_out hf hk, fun z => absurd (show (2 : Nat) = 0 from z) (by decide)⟩, ev_iret dL_reason_20 rfl rfl rfl rfl⟩
theorem le_undo {A : AS} : (spUndo A).1.1 ≤ 1 := by
  unfold spUndo
  (repeat' split) <;> exact Nat.le_of_ble_eq_true rfl
set_option maxRecDepth 4000 in
theorem hL_undo {G : GX} {w : WS} {A : AS} (h : aX A w) : ∃ o w2, pWr (spUndo A) w o w2 ∧ Big G 20 1 mL_undo [.ref 0, .ref 125] w o w2 := by
  obtain ⟨o, w1, ⟨ho, hA, hf⟩, hB⟩ := fX11_undo (G := G) h
  have hle : (spUndo A).1.1 ≤ 1 := le_undo
  generalize spUndo A = r at ho hA hle ⊢
  obtain ⟨⟨k, v⟩, A2⟩ := r
  have hle : k ≤ 1 := hle
  rcases Nat.eq_zero_or_pos k with rfl | hk
  · have hB := big_o (show o = .inl (some (.int v)) from ho) hB
    refine bx_of (P := pWr ((0, v), A2) w) (by decide +kernel) (Nat.le_of_ble_eq_true rfl) ?_
    show Ex G 20 1 mL_undo 0 [some (.ref 0), some (.ref 125), none] [] w _
    refine ex_s (fun _ => ev_aload_n dL_undo_0 rfl) ?_
    refine ex_s (fun _ => ev_iconst dL_undo_1 ic0) ?_
    refine ex_s (fun _ => ev_aload_n dL_undo_2 rfl) ?_
    refine ex_s2 (fun _ => ev_callV kL_135 co0 hB dL_undo_3 rfl (by decide) (by decide) rfl) ?_
    refine ex_s (fun _ => ev_i2l dL_undo_6) ?_
    refine ex_s (fun _ => ev_lastore dL_undo_7 rfl) ?_
    refine ex_s (fun _ => ev_goto (tgt := 14) dL_undo_8 (by decide)) ?_
    refine ex_s (fun _ => ev_iconst dL_undo_14 ic0) ?_
    exact ⟨_, (w1.1, v.toInt64, w1.2.2), ⟨rfl, aX_of rfl hA, fun k hk => fr_out hf hk, fun _ => rfl⟩, ev_iret dL_undo_15 rfl rfl rfl rfl⟩
  · have hk1 : 1 ≤ k := hk
    obtain rfl : k = 1 := by omega
    skip
    have hB := big_o (show o = .inr "java/util/NoSuchElementException" from ho) hB
    refine bx_of (P := pWr ((1, v), A2) w) (by decide +kernel) (Nat.le_of_ble_eq_true rfl) ?_
    show Ex G 20 1 mL_undo 0 [some (.ref 0), some (.ref 125), none] [] w _
    refine ex_s (fun _ => ev_aload_n dL_undo_0 rfl) ?_
    refine ex_s (fun _ => ev_iconst dL_undo_1 ic0) ?_
    refine ex_s (fun _ => ev_aload_n dL_undo_2 rfl) ?_
    refine ex_s2 (fun Z => @ev_callVc G 20 1 _ 1 mL_undo mX11_undo 3 135 0 0 2 [some (.ref 0), some (.ref 125), none] [] [.int (nI 0), .ref 125] w w1 "java/util/NoSuchElementException" Z kL_135 co0 hB dL_undo_3 rfl (by decide) (by decide) rfl [] [] (0, 8, 11, 52) rfl hp_nil (by decide) (by decide) (by decide) xc_52 xt_NoSuchElem 1 (Or.inl ⟨2, rfl, dL_undo_11, rfl⟩) (by decide) rfl) ?_
    refine ex_s (fun _ => ev_iconst dL_undo_12 ic1) ?_
    exact ⟨_, _, ⟨rfl, hA, fun k hk => fr_out hf hk, fun z => absurd (show (1 : Nat) = 0 from z) (by decide)⟩, ev_iret dL_undo_13 rfl rfl rfl rfl⟩
theorem le_restore {A : AS} : (spRest A).1.1 ≤ 1 := by
  unfold spRest
  (repeat' split) <;> exact Nat.le_of_ble_eq_true rfl
set_option maxRecDepth 4000 in
theorem hL_restore {G : GX} {w : WS} {A : AS} (h : aX A w) : ∃ o w2, pWr (spRest A) w o w2 ∧ Big G 20 1 mL_restore [.ref 0, .ref 125] w o w2 := by
  obtain ⟨o, w1, ⟨ho, hA, hf⟩, hB⟩ := fX11_restore (G := G) h
  have hle : (spRest A).1.1 ≤ 1 := le_restore
  generalize spRest A = r at ho hA hle ⊢
  obtain ⟨⟨k, v⟩, A2⟩ := r
  have hle : k ≤ 1 := hle
  rcases Nat.eq_zero_or_pos k with rfl | hk
  · have hB := big_o (show o = .inl (some (.int v)) from ho) hB
    refine bx_of (P := pWr ((0, v), A2) w) (by decide +kernel) (Nat.le_of_ble_eq_true rfl) ?_
    show Ex G 20 1 mL_restore 0 [some (.ref 0), some (.ref 125), none] [] w _
    refine ex_s (fun _ => ev_aload_n dL_restore_0 rfl) ?_
    refine ex_s (fun _ => ev_iconst dL_restore_1 ic0) ?_
    refine ex_s (fun _ => ev_aload_n dL_restore_2 rfl) ?_
    refine ex_s2 (fun _ => ev_callV kL_138 co0 hB dL_restore_3 rfl (by decide) (by decide) rfl) ?_
    refine ex_s (fun _ => ev_i2l dL_restore_6) ?_
    refine ex_s (fun _ => ev_lastore dL_restore_7 rfl) ?_
    refine ex_s (fun _ => ev_goto (tgt := 14) dL_restore_8 (by decide)) ?_
    refine ex_s (fun _ => ev_iconst dL_restore_14 ic0) ?_
    exact ⟨_, (w1.1, v.toInt64, w1.2.2), ⟨rfl, aX_of rfl hA, fun k hk => fr_out hf hk, fun _ => rfl⟩, ev_iret dL_restore_15 rfl rfl rfl rfl⟩
  · have hk1 : 1 ≤ k := hk
    obtain rfl : k = 1 := by omega
    skip
    have hB := big_o (show o = .inr "java/lang/IllegalStateException" from ho) hB
    refine bx_of (P := pWr ((1, v), A2) w) (by decide +kernel) (Nat.le_of_ble_eq_true rfl) ?_
    show Ex G 20 1 mL_restore 0 [some (.ref 0), some (.ref 125), none] [] w _
    refine ex_s (fun _ => ev_aload_n dL_restore_0 rfl) ?_
    refine ex_s (fun _ => ev_iconst dL_restore_1 ic0) ?_
    refine ex_s (fun _ => ev_aload_n dL_restore_2 rfl) ?_
    refine ex_s2 (fun Z => @ev_callVc G 20 1 _ 1 mL_restore mX11_restore 3 138 0 0 2 [some (.ref 0), some (.ref 125), none] [] [.int (nI 0), .ref 125] w w1 "java/lang/IllegalStateException" Z kL_138 co0 hB dL_restore_3 rfl (by decide) (by decide) rfl [] [] (0, 8, 11, 29) rfl hp_nil (by decide) (by decide) (by decide) xc_29 xt_IllegalSta 1 (Or.inl ⟨2, rfl, dL_restore_11, rfl⟩) (by decide) rfl) ?_
    refine ex_s (fun _ => ev_iconst dL_restore_12 ic1) ?_
    exact ⟨_, _, ⟨rfl, hA, fun k hk => fr_out hf hk, fun z => absurd (show (1 : Nat) = 0 from z) (by decide)⟩, ev_iret dL_restore_13 rfl rfl rfl rfl⟩
set_option maxRecDepth 4000 in
theorem hL_meanWrong {G : GX} {w : WS} {A : AS} (h : aX A w) : ∃ o w2, pWd (aS A) A w o w2 ∧ Big G 20 1 mL_meanWrong [.ref 0, .ref 126] w o w2 := by
  by_cases hn : nR (aS A) = 0
  · have hB := qX11_meanWrong_n (G := G) h.1 hn
    refine bx_of (P := pWd (aS A) A w) (by decide +kernel) (Nat.le_of_ble_eq_true rfl) ?_
    show Ex G 20 1 mL_meanWrong 0 [some (.ref 0), some (.ref 126), none] [] w _
    refine ex_s (fun _ => ev_aload_n dL_meanWrong_0 rfl) ?_
    refine ex_s (fun _ => ev_iconst dL_meanWrong_1 ic0) ?_
    refine ex_s (fun _ => ev_aload_n dL_meanWrong_2 rfl) ?_
    refine ex_s2 (fun Z => @ev_callVc G 20 1 _ 1 mL_meanWrong mX11_meanWrong 3 112 0 0 2 [some (.ref 0), some (.ref 126), none] [] [.int (nI 0), .ref 126] w w "java/lang/ArithmeticException" Z kL_112 co0 hB dL_meanWrong_3 rfl (by decide) (by decide) rfl [] [] (0, 7, 10, 116) rfl hp_nil (by decide) (by decide) (by decide) xc_116 xt_Arithmetic 1 (Or.inl ⟨2, rfl, dL_meanWrong_10, rfl⟩) (by decide) rfl) ?_
    refine ex_s (fun _ => ev_iconst dL_meanWrong_11 ic1) ?_
    exact ⟨_, _, ⟨by rw [if_pos hn], h, fun k hk => rfl, fun z => absurd hn z⟩, ev_iret dL_meanWrong_12 rfl rfl rfl rfl⟩
  · have hB := qX11_meanWrong_y (G := G) h.1 hn
    refine bx_of (P := pWd (aS A) A w) (by decide +kernel) (Nat.le_of_ble_eq_true rfl) ?_
    show Ex G 20 1 mL_meanWrong 0 [some (.ref 0), some (.ref 126), none] [] w _
    refine ex_s (fun _ => ev_aload_n dL_meanWrong_0 rfl) ?_
    refine ex_s (fun _ => ev_iconst dL_meanWrong_1 ic0) ?_
    refine ex_s (fun _ => ev_aload_n dL_meanWrong_2 rfl) ?_
    refine ex_s2 (fun _ => ev_callV kL_112 co0 hB dL_meanWrong_3 rfl (by decide) (by decide) rfl) ?_
    refine ex_s (fun _ => ev_dastore dL_meanWrong_6 rfl) ?_
    refine ex_s (fun _ => ev_goto (tgt := 13) dL_meanWrong_7 (by decide)) ?_
    refine ex_s (fun _ => ev_iconst dL_meanWrong_13 ic0) ?_
    exact ⟨_, (w.1, w.2.1, mwD (aS A)), ⟨by rw [if_neg hn], aX_of rfl h, fun k hk => rfl, fun _ => rfl⟩, ev_iret dL_meanWrong_14 rfl rfl rfl rfl⟩
