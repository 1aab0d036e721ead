/-! the reference: its row; what is asked of it -/
def rA (S : ST) (f : Nat → Int32) : Prop := f 0 = nI (nR S) ∧ f 1 = nI (nD S) ∧ (f 2 = sM S 0 ∧ f 3 = sM S 1 ∧ f 4 = sM S 2 ∧ f 5 = sM S 3 ∧ f 6 = sM S 4) ∧ (∀ r, r < 4 → f (7 + 3 * r) = sC S r ∧ f (7 + 3 * r + 1) = sW S r ∧ f (7 + 3 * r + 2) = sL S r) ∧ (∀ c, c < 64 → f (19 + c) = sO S c) ∧ (∀ i, i < nR S → f (83 + 15 * i) = nI (rP S i 0) ∧ f (83 + 15 * i + 1) = nI (rT S i) ∧ f (83 + 15 * i + 2) = nI (rN S i) ∧ ∀ k, k < rN S i → f (83 + 15 * i + 3 + k) = nI (stF S i k)) ∧ (∀ i, i < nD S → f (143 + 3 * i) = nI (dC S i) ∧ f (143 + 3 * i + 1) = nI (dP S i) ∧ f (143 + 3 * i + 2) = nI (dQ S i))
def mR (S : ST) (w : WS) : Prop := rA S (w.1 116) ∧ okS S
theorem mRe {S : ST} {w w2 : WS} (h : mR S w) (he : w2.1 116 = w.1 116) : mR S w2 := ⟨by rw [he]; exact h.1, h.2⟩
theorem nb_uq0 : ∀ x : Fin 64, ∀ d e : Fin 4, (nb x.val d.val).isSome = true → nb x.val d.val = nb x.val e.val → d = e := by decide +kernel
theorem nb_uq {x d e y : Nat} (hx : x < 64) (hd : d < 4) (he : e < 4) (h1 : nb x d = some y) (h2 : nb x e = some y) : d = e := by
  have := nb_uq0 ⟨x, hx⟩ ⟨d, hd⟩ ⟨e, he⟩ (by rw [h1]; rfl) (by rw [h1, h2])
  exact congrArg Fin.val this
set_option maxRecDepth 4000 in
theorem qX12_in {G : GX} {w : WS} {x y z : Int32} : Big G 1 0 mX12_in [.int x, .int y, .int z] w (.inl (some (.int (bI (decide (y ≤ x ∧ x ≤ z)))))) w := by
  refine big_of (by decide +kernel) (Nat.le_of_ble_eq_true rfl) ?_
  show Ev G 1 0 mX12_in 0 [some (.int x), some (.int y), some (.int z)] [] w _
  refine ev_iload_n dX12_in_0 rfl ?_
  refine ev_iload_n dX12_in_1 rfl ?_
  refine ev_icmp_lt (tgt := 14) dX12_in_2 (by decide) (fun hc2 => ?_) (fun hc2 => ?_)
  · refine ev_iconst dX12_in_14 ic0 ?_
    exact ev_iret dX12_in_15 rfl rfl (obF (decide_eq_false (fun q => absurd q.1 (Int32.not_le.mpr hc2)))) rfl
  · refine ev_iload_n dX12_in_5 rfl ?_
    refine ev_iload_n dX12_in_6 rfl ?_
    refine ev_icmp_gt (tgt := 14) dX12_in_7 (by decide) (fun hc7 => ?_) (fun hc7 => ?_)
    · refine ev_iconst dX12_in_14 ic0 ?_
      exact ev_iret dX12_in_15 rfl rfl (obF (decide_eq_false (fun q => absurd q.2 (Int32.not_le.mpr hc7)))) rfl
    · refine ev_iconst dX12_in_10 ic1 ?_
      refine ev_goto (tgt := 15) dX12_in_11 (by decide) ?_
      exact ev_iret dX12_in_15 rfl rfl (obT (decide_eq_true ⟨Int32.not_lt.mp hc2, Int32.not_lt.mp hc7⟩)) rfl
theorem qX12_in_t {G : GX} {w : WS} {x y z : Int32} (h1 : y ≤ x) (h2 : x ≤ z) : Big G 1 0 mX12_in [.int x, .int y, .int z] w (.inl (some (.int (bI true)))) w := by
  have h := qX12_in (G := G) (w := w) (x := x) (y := y) (z := z)
  rw [decide_eq_true ⟨h1, h2⟩] at h
  exact h
theorem qX12_in_f {G : GX} {w : WS} {x y z : Int32} (h : x < y ∨ z < x) : Big G 1 0 mX12_in [.int x, .int y, .int z] w (.inl (some (.int (bI false)))) w := by
  have h2 := qX12_in (G := G) (w := w) (x := x) (y := y) (z := z)
  rw [decide_eq_false (fun q => h.elim (fun z => absurd q.1 (Int32.not_le.mpr z)) (fun z => absurd q.2 (Int32.not_le.mpr z)))] at h2
  exact h2
theorem out_hi {n : Nat} {x : Int32} (hn : n + 1 < 2 ^ 31) (h : out_ (n + 1) x) : x < nI 0 ∨ nI n < x := h.elim Or.inl (fun q => Or.inr (nI_lt10 hn q))
set_option maxRecDepth 4000 in
theorem qX12_isCell_y {G : GX} {w : WS} {k : Nat} (hk : k < 64) : Big G 2 0 mX12_isCell [.int (nI k)] w (.inl (some (.int (bI true)))) w := by
  refine big_of (by decide +kernel) (Nat.le_of_ble_eq_true rfl) ?_
  show Ev G 2 0 mX12_isCell 0 [some (.int (nI k))] [] w _
  refine ev_iload_n dX12_isCell_0 rfl ?_
  refine ev_iconst dX12_isCell_1 ic0 ?_
  refine ev_bipush (v := nI 63) dX12_isCell_2 (by decide) ?_
  refine ev_callS kX12_63 (qX12_in_t (nI_le (Nat.zero_le _) (by omega)) (nI_le (by omega) (by decide))) dX12_isCell_4 rfl (by decide) (by decide) rfl ?_
  exact ev_iret dX12_isCell_7 rfl (by decide) rfl rfl
set_option maxRecDepth 4000 in
theorem qX12_isCell_n {G : GX} {w : WS} {x : Int32} (hx : out_ 64 x) : Big G 2 0 mX12_isCell [.int x] w (.inl (some (.int (bI false)))) w := by
  refine big_of (by decide +kernel) (Nat.le_of_ble_eq_true rfl) ?_
  show Ev G 2 0 mX12_isCell 0 [some (.int x)] [] w _
  refine ev_iload_n dX12_isCell_0 rfl ?_
  refine ev_iconst dX12_isCell_1 ic0 ?_
  refine ev_bipush (v := nI 63) dX12_isCell_2 (by decide) ?_
  refine ev_callS kX12_63 (qX12_in_f (out_hi (by decide) hx)) dX12_isCell_4 rfl (by decide) (by decide) rfl ?_
  exact ev_iret dX12_isCell_7 rfl (by decide) rfl rfl
set_option maxRecDepth 4000 in
theorem qX12_isRealm_y {G : GX} {w : WS} {k : Nat} (hk : k < 4) : Big G 2 0 mX12_isRealm [.int (nI k)] w (.inl (some (.int (bI true)))) w := by
  refine big_of (by decide +kernel) (Nat.le_of_ble_eq_true rfl) ?_
  show Ev G 2 0 mX12_isRealm 0 [some (.int (nI k))] [] w _
  refine ev_iload_n dX12_isRealm_0 rfl ?_
  refine ev_iconst dX12_isRealm_1 ic0 ?_
  refine ev_iconst dX12_isRealm_2 ic3 ?_
  refine ev_callS kX12_63 (qX12_in_t (nI_le (Nat.zero_le _) (by omega)) (nI_le (by omega) (by decide))) dX12_isRealm_3 rfl (by decide) (by decide) rfl ?_
  exact ev_iret dX12_isRealm_6 rfl (by decide) rfl rfl
set_option maxRecDepth 4000 in
theorem qX12_isRealm_n {G : GX} {w : WS} {x : Int32} (hx : out_ 4 x) : Big G 2 0 mX12_isRealm [.int x] w (.inl (some (.int (bI false)))) w := by
  refine big_of (by decide +kernel) (Nat.le_of_ble_eq_true rfl) ?_
  show Ev G 2 0 mX12_isRealm 0 [some (.int x)] [] w _
  refine ev_iload_n dX12_isRealm_0 rfl ?_
  refine ev_iconst dX12_isRealm_1 ic0 ?_
  refine ev_iconst dX12_isRealm_2 ic3 ?_
  refine ev_callS kX12_63 (qX12_in_f (out_hi (by decide) hx)) dX12_isRealm_3 rfl (by decide) (by decide) rfl ?_
  exact ev_iret dX12_isRealm_6 rfl (by decide) rfl rfl
set_option maxRecDepth 4000 in
theorem qX12_at {G : GX} {w : WS} {S : ST} (hS : mR S w) {c : Nat} (hc : c < 64) : Big G 1 0 mX12_at [.ref 115, .int (nI c)] w (.inl (some (.int (sO S c)))) w := by
  refine big_of (by decide +kernel) (Nat.le_of_ble_eq_true rfl) ?_
  have hS0 := hS
  obtain ⟨⟨q0, q1, ⟨m0, m1, m2, m3, m4⟩, qr, qc, qv, qd⟩, hk1, hk2, hk3, hk4⟩ := hS
  have h4 := hk2.1
  have h5 := hk3.1
  show Ev G 1 0 mX12_at 0 [some (.ref 115), some (.int (nI c))] [] w _
  refine ev_aload_n dX12_at_0 rfl ?_
  refine ev_getR fX12_9 dX12_at_1 (by decide) sh115 rfl ?_
  refine ev_bipush (v := nI 19) dX12_at_4 (by decide) ?_
  refine ev_iload_n dX12_at_6 rfl ?_
  refine ev_iadd dX12_at_7 ?_
  first | refine ev_top (nI_add _ _) ?_ | skip
  refine ev_iaload dX12_at_8 rfl (by omega) (by decide) sh116 ?_
  refine ev_top (qc c hc) ?_
  exact ev_iret dX12_at_9 rfl rfl rfl rfl
theorem nI_p1 {a : Nat} (h : 1 ≤ a) : nI a + (-1) = nI (a - 1) := by
  obtain ⟨k, rfl⟩ : ∃ k, a = k + 1 := ⟨a - 1, by omega⟩
  rw [pk_m1]
  rfl
set_option maxRecDepth 4000 in
theorem qX12_beside_0y {G : GX} {w : WS} {c : Nat} (hc : c < 64) (h : 8 ≤ c) : Big G 2 0 mX12_beside [.int (nI c), .int (nI 0)] w (.inl (some (.int (nI (c - 8))))) w := by
  refine big_of (by decide +kernel) (Nat.le_of_ble_eq_true rfl) ?_
  show Ev G 2 0 mX12_beside 0 [some (.int (nI c)), some (.int (nI 0)), none, none] [] w _
  refine ev_iload_n dX12_beside_0 rfl ?_
  refine ev_bipush (v := nI 8) dX12_beside_1 (by decide) ?_
  refine ev_irem dX12_beside_3 (by decide) ?_
  refine ev_top (pk_rem (by omega) (by decide) (by decide)) ?_
  refine ev_iload_n dX12_beside_4 rfl ?_
  refine ev_iconst dX12_beside_5 ic1 ?_
  refine ev_icmp_ne_t (tgt := 13) dX12_beside_6 (by decide) (by decide) ?_
  refine ev_iload_n dX12_beside_13 rfl ?_
  refine ev_iconst dX12_beside_14 ic3 ?_
  refine ev_icmp_ne_t (tgt := 22) dX12_beside_15 (by decide) (by decide) ?_
  refine ev_iconst dX12_beside_22 ic0 ?_
  refine ev_iadd dX12_beside_23 ?_
  first | refine ev_top (nI_add _ _) ?_ | skip
  refine ev_ist2 dX12_beside_24 (by decide) rfl ?_
  refine ev_iload_n dX12_beside_25 rfl ?_
  refine ev_bipush (v := nI 8) dX12_beside_26 (by decide) ?_
  refine ev_idiv dX12_beside_28 (by decide) ?_
  refine ev_top (pk_div (by omega) (by decide) (by decide)) ?_
  refine ev_iload_n dX12_beside_29 rfl ?_
  refine ev_iconst dX12_beside_30 ic2 ?_
  refine ev_icmp_ne_t (tgt := 38) dX12_beside_31 (by decide) (by decide) ?_
  refine ev_iload_n dX12_beside_38 rfl ?_
  refine ev_if_ne_f (tgt := 46) dX12_beside_39 (by decide) rfl ?_
  refine ev_iconst dX12_beside_42 icm1 ?_
  refine ev_goto (tgt := 47) dX12_beside_43 (by decide) ?_
  refine ev_iadd dX12_beside_47 ?_
  refine ev_top (y := nI (c / 8 - 1)) (nI_p1 (by omega)) ?_
  refine ev_ist3 dX12_beside_48 (by decide) rfl ?_
  refine ev_iload_n dX12_beside_49 rfl ?_
  refine ev_iconst dX12_beside_50 ic0 ?_
  refine ev_bipush (v := nI 7) dX12_beside_51 (by decide) ?_
  refine ev_callS kX12_63 (qX12_in_t (nI_le (Nat.zero_le _) (by omega)) (nI_le (by omega) (by decide))) dX12_beside_53 rfl (by decide) (by decide) rfl ?_
  refine ev_if_eq_f (tgt := 78) dX12_beside_56 (by decide) (by decide) ?_
  refine ev_iload_n dX12_beside_59 rfl ?_
  refine ev_iconst dX12_beside_60 ic0 ?_
  refine ev_bipush (v := nI 7) dX12_beside_61 (by decide) ?_
  refine ev_callS kX12_63 (qX12_in_t (nI_le (Nat.zero_le _) (by omega)) (nI_le (by omega) (by decide))) dX12_beside_63 rfl (by decide) (by decide) rfl ?_
  refine ev_if_eq_f (tgt := 78) dX12_beside_66 (by decide) (by decide) ?_
  refine ev_bipush (v := nI 8) dX12_beside_69 (by decide) ?_
  refine ev_iload_n dX12_beside_71 rfl ?_
  refine ev_imul dX12_beside_72 ?_
  first | refine ev_top (pk_mul _ _) ?_ | skip
  refine ev_iload_n dX12_beside_73 rfl ?_
  refine ev_iadd dX12_beside_74 ?_
  first | refine ev_top (nI_add _ _) ?_ | skip
  refine ev_goto (tgt := 79) dX12_beside_75 (by decide) ?_
  exact ev_iret dX12_beside_79 rfl rfl (by congr 3; congr 1; omega) rfl
set_option maxRecDepth 4000 in
theorem qX12_beside_0n {G : GX} {w : WS} {c : Nat} (hc : c < 64) (h : ¬ 8 ≤ c) : Big G 2 0 mX12_beside [.int (nI c), .int (nI 0)] w (.inl (some (.int (-1)))) w := by
  refine big_of (by decide +kernel) (Nat.le_of_ble_eq_true rfl) ?_
  show Ev G 2 0 mX12_beside 0 [some (.int (nI c)), some (.int (nI 0)), none, none] [] w _
  refine ev_iload_n dX12_beside_0 rfl ?_
  refine ev_bipush (v := nI 8) dX12_beside_1 (by decide) ?_
  refine ev_irem dX12_beside_3 (by decide) ?_
  refine ev_top (pk_rem (by omega) (by decide) (by decide)) ?_
  refine ev_iload_n dX12_beside_4 rfl ?_
  refine ev_iconst dX12_beside_5 ic1 ?_
  refine ev_icmp_ne_t (tgt := 13) dX12_beside_6 (by decide) (by decide) ?_
  refine ev_iload_n dX12_beside_13 rfl ?_
  refine ev_iconst dX12_beside_14 ic3 ?_
  refine ev_icmp_ne_t (tgt := 22) dX12_beside_15 (by decide) (by decide) ?_
  refine ev_iconst dX12_beside_22 ic0 ?_
  refine ev_iadd dX12_beside_23 ?_
  first | refine ev_top (nI_add _ _) ?_ | skip
  refine ev_ist2 dX12_beside_24 (by decide) rfl ?_
  refine ev_iload_n dX12_beside_25 rfl ?_
  refine ev_bipush (v := nI 8) dX12_beside_26 (by decide) ?_
  refine ev_idiv dX12_beside_28 (by decide) ?_
  refine ev_top (pk_div (by omega) (by decide) (by decide)) ?_
  refine ev_iload_n dX12_beside_29 rfl ?_
  refine ev_iconst dX12_beside_30 ic2 ?_
  refine ev_icmp_ne_t (tgt := 38) dX12_beside_31 (by decide) (by decide) ?_
  refine ev_iload_n dX12_beside_38 rfl ?_
  refine ev_if_ne_f (tgt := 46) dX12_beside_39 (by decide) rfl ?_
  refine ev_iconst dX12_beside_42 icm1 ?_
  refine ev_goto (tgt := 47) dX12_beside_43 (by decide) ?_
  refine ev_iadd dX12_beside_47 ?_
  refine ev_top (y := -1) (by rw [show c / 8 = 0 by omega]; decide) ?_
  refine ev_ist3 dX12_beside_48 (by decide) rfl ?_
  refine ev_iload_n dX12_beside_49 rfl ?_
  refine ev_iconst dX12_beside_50 ic0 ?_
  refine ev_bipush (v := nI 7) dX12_beside_51 (by decide) ?_
  refine ev_callS kX12_63 (qX12_in_t (nI_le (Nat.zero_le _) (by omega)) (nI_le (by omega) (by decide))) dX12_beside_53 rfl (by decide) (by decide) rfl ?_
  refine ev_if_eq_f (tgt := 78) dX12_beside_56 (by decide) (by decide) ?_
  refine ev_iload_n dX12_beside_59 rfl ?_
  refine ev_iconst dX12_beside_60 ic0 ?_
  refine ev_bipush (v := nI 7) dX12_beside_61 (by decide) ?_
  refine ev_callS kX12_63 (qX12_in_f (Or.inl (by decide))) dX12_beside_63 rfl (by decide) (by decide) rfl ?_
  refine ev_if_eq_t (tgt := 78) dX12_beside_66 (by decide) rfl ?_
  refine ev_iconst dX12_beside_78 icm1 ?_
  exact ev_iret dX12_beside_79 rfl rfl rfl rfl
set_option maxRecDepth 4000 in
theorem qX12_beside_1y {G : GX} {w : WS} {c : Nat} (hc : c < 64) (h : c % 8 < 7) : Big G 2 0 mX12_beside [.int (nI c), .int (nI 1)] w (.inl (some (.int (nI (c + 1))))) w := by
  refine big_of (by decide +kernel) (Nat.le_of_ble_eq_true rfl) ?_
  show Ev G 2 0 mX12_beside 0 [some (.int (nI c)), some (.int (nI 1)), none, none] [] w _
  refine ev_iload_n dX12_beside_0 rfl ?_
  refine ev_bipush (v := nI 8) dX12_beside_1 (by decide) ?_
  refine ev_irem dX12_beside_3 (by decide) ?_
  refine ev_top (pk_rem (by omega) (by decide) (by decide)) ?_
  refine ev_iload_n dX12_beside_4 rfl ?_
  refine ev_iconst dX12_beside_5 ic1 ?_
  refine ev_icmp_ne_f (tgt := 13) dX12_beside_6 (by decide) rfl ?_
  refine ev_iconst dX12_beside_9 ic1 ?_
  refine ev_goto (tgt := 23) dX12_beside_10 (by decide) ?_
  refine ev_iadd dX12_beside_23 ?_
  first | refine ev_top (nI_add _ _) ?_ | skip
  refine ev_ist2 dX12_beside_24 (by decide) rfl ?_
  refine ev_iload_n dX12_beside_25 rfl ?_
  refine ev_bipush (v := nI 8) dX12_beside_26 (by decide) ?_
  refine ev_idiv dX12_beside_28 (by decide) ?_
  refine ev_top (pk_div (by omega) (by decide) (by decide)) ?_
  refine ev_iload_n dX12_beside_29 rfl ?_
  refine ev_iconst dX12_beside_30 ic2 ?_
  refine ev_icmp_ne_t (tgt := 38) dX12_beside_31 (by decide) (by decide) ?_
  refine ev_iload_n dX12_beside_38 rfl ?_
  refine ev_if_ne_t (tgt := 46) dX12_beside_39 (by decide) (by decide) ?_
  refine ev_iconst dX12_beside_46 ic0 ?_
  refine ev_iadd dX12_beside_47 ?_
  first | refine ev_top (nI_add _ _) ?_ | skip
  refine ev_ist3 dX12_beside_48 (by decide) rfl ?_
  refine ev_iload_n dX12_beside_49 rfl ?_
  refine ev_iconst dX12_beside_50 ic0 ?_
  refine ev_bipush (v := nI 7) dX12_beside_51 (by decide) ?_
  refine ev_callS kX12_63 (qX12_in_t (nI_le (Nat.zero_le _) (by omega)) (nI_le (by omega) (by decide))) dX12_beside_53 rfl (by decide) (by decide) rfl ?_
  refine ev_if_eq_f (tgt := 78) dX12_beside_56 (by decide) (by decide) ?_
  refine ev_iload_n dX12_beside_59 rfl ?_
  refine ev_iconst dX12_beside_60 ic0 ?_
  refine ev_bipush (v := nI 7) dX12_beside_61 (by decide) ?_
  refine ev_callS kX12_63 (qX12_in_t (nI_le (Nat.zero_le _) (by omega)) (nI_le (by omega) (by decide))) dX12_beside_63 rfl (by decide) (by decide) rfl ?_
  refine ev_if_eq_f (tgt := 78) dX12_beside_66 (by decide) (by decide) ?_
  refine ev_bipush (v := nI 8) dX12_beside_69 (by decide) ?_
  refine ev_iload_n dX12_beside_71 rfl ?_
  refine ev_imul dX12_beside_72 ?_
  first | refine ev_top (pk_mul _ _) ?_ | skip
  refine ev_iload_n dX12_beside_73 rfl ?_
  refine ev_iadd dX12_beside_74 ?_
  first | refine ev_top (nI_add _ _) ?_ | skip
  refine ev_goto (tgt := 79) dX12_beside_75 (by decide) ?_
  exact ev_iret dX12_beside_79 rfl rfl (by congr 3; congr 1; omega) rfl
set_option maxRecDepth 4000 in
theorem qX12_beside_1n {G : GX} {w : WS} {c : Nat} (hc : c < 64) (h : ¬ c % 8 < 7) : Big G 2 0 mX12_beside [.int (nI c), .int (nI 1)] w (.inl (some (.int (-1)))) w := by
  refine big_of (by decide +kernel) (Nat.le_of_ble_eq_true rfl) ?_
  show Ev G 2 0 mX12_beside 0 [some (.int (nI c)), some (.int (nI 1)), none, none] [] w _
  refine ev_iload_n dX12_beside_0 rfl ?_
  refine ev_bipush (v := nI 8) dX12_beside_1 (by decide) ?_
  refine ev_irem dX12_beside_3 (by decide) ?_
  refine ev_top (pk_rem (by omega) (by decide) (by decide)) ?_
  refine ev_iload_n dX12_beside_4 rfl ?_
  refine ev_iconst dX12_beside_5 ic1 ?_
  refine ev_icmp_ne_f (tgt := 13) dX12_beside_6 (by decide) rfl ?_
  refine ev_iconst dX12_beside_9 ic1 ?_
  refine ev_goto (tgt := 23) dX12_beside_10 (by decide) ?_
  refine ev_iadd dX12_beside_23 ?_
  first | refine ev_top (nI_add _ _) ?_ | skip
  refine ev_ist2 dX12_beside_24 (by decide) rfl ?_
  refine ev_iload_n dX12_beside_25 rfl ?_
  refine ev_bipush (v := nI 8) dX12_beside_26 (by decide) ?_
  refine ev_idiv dX12_beside_28 (by decide) ?_
  refine ev_top (pk_div (by omega) (by decide) (by decide)) ?_
  refine ev_iload_n dX12_beside_29 rfl ?_
  refine ev_iconst dX12_beside_30 ic2 ?_
  refine ev_icmp_ne_t (tgt := 38) dX12_beside_31 (by decide) (by decide) ?_
  refine ev_iload_n dX12_beside_38 rfl ?_
  refine ev_if_ne_t (tgt := 46) dX12_beside_39 (by decide) (by decide) ?_
  refine ev_iconst dX12_beside_46 ic0 ?_
  refine ev_iadd dX12_beside_47 ?_
  first | refine ev_top (nI_add _ _) ?_ | skip
  refine ev_ist3 dX12_beside_48 (by decide) rfl ?_
  refine ev_iload_n dX12_beside_49 rfl ?_
  refine ev_iconst dX12_beside_50 ic0 ?_
  refine ev_bipush (v := nI 7) dX12_beside_51 (by decide) ?_
  refine ev_callS kX12_63 (qX12_in_f (Or.inr ((pk_lt' (by decide) (by omega)).mpr (by omega)))) dX12_beside_53 rfl (by decide) (by decide) rfl ?_
  refine ev_if_eq_t (tgt := 78) dX12_beside_56 (by decide) rfl ?_
  refine ev_iconst dX12_beside_78 icm1 ?_
  exact ev_iret dX12_beside_79 rfl rfl rfl rfl
set_option maxRecDepth 4000 in
theorem qX12_beside_2y {G : GX} {w : WS} {c : Nat} (hc : c < 64) (h : c < 56) : Big G 2 0 mX12_beside [.int (nI c), .int (nI 2)] w (.inl (some (.int (nI (c + 8))))) w := by
  refine big_of (by decide +kernel) (Nat.le_of_ble_eq_true rfl) ?_
  show Ev G 2 0 mX12_beside 0 [some (.int (nI c)), some (.int (nI 2)), none, none] [] w _
  refine ev_iload_n dX12_beside_0 rfl ?_
  refine ev_bipush (v := nI 8) dX12_beside_1 (by decide) ?_
  refine ev_irem dX12_beside_3 (by decide) ?_
  refine ev_top (pk_rem (by omega) (by decide) (by decide)) ?_
  refine ev_iload_n dX12_beside_4 rfl ?_
  refine ev_iconst dX12_beside_5 ic1 ?_
  refine ev_icmp_ne_t (tgt := 13) dX12_beside_6 (by decide) (by decide) ?_
  refine ev_iload_n dX12_beside_13 rfl ?_
  refine ev_iconst dX12_beside_14 ic3 ?_
  refine ev_icmp_ne_t (tgt := 22) dX12_beside_15 (by decide) (by decide) ?_
  refine ev_iconst dX12_beside_22 ic0 ?_
  refine ev_iadd dX12_beside_23 ?_
  first | refine ev_top (nI_add _ _) ?_ | skip
  refine ev_ist2 dX12_beside_24 (by decide) rfl ?_
  refine ev_iload_n dX12_beside_25 rfl ?_
  refine ev_bipush (v := nI 8) dX12_beside_26 (by decide) ?_
  refine ev_idiv dX12_beside_28 (by decide) ?_
  refine ev_top (pk_div (by omega) (by decide) (by decide)) ?_
  refine ev_iload_n dX12_beside_29 rfl ?_
  refine ev_iconst dX12_beside_30 ic2 ?_
  refine ev_icmp_ne_f (tgt := 38) dX12_beside_31 (by decide) rfl ?_
  refine ev_iconst dX12_beside_34 ic1 ?_
  refine ev_goto (tgt := 47) dX12_beside_35 (by decide) ?_
  refine ev_iadd dX12_beside_47 ?_
  first | refine ev_top (nI_add _ _) ?_ | skip
  refine ev_ist3 dX12_beside_48 (by decide) rfl ?_
  refine ev_iload_n dX12_beside_49 rfl ?_
  refine ev_iconst dX12_beside_50 ic0 ?_
  refine ev_bipush (v := nI 7) dX12_beside_51 (by decide) ?_
  refine ev_callS kX12_63 (qX12_in_t (nI_le (Nat.zero_le _) (by omega)) (nI_le (by omega) (by decide))) dX12_beside_53 rfl (by decide) (by decide) rfl ?_
  refine ev_if_eq_f (tgt := 78) dX12_beside_56 (by decide) (by decide) ?_
  refine ev_iload_n dX12_beside_59 rfl ?_
  refine ev_iconst dX12_beside_60 ic0 ?_
  refine ev_bipush (v := nI 7) dX12_beside_61 (by decide) ?_
  refine ev_callS kX12_63 (qX12_in_t (nI_le (Nat.zero_le _) (by omega)) (nI_le (by omega) (by decide))) dX12_beside_63 rfl (by decide) (by decide) rfl ?_
  refine ev_if_eq_f (tgt := 78) dX12_beside_66 (by decide) (by decide) ?_
  refine ev_bipush (v := nI 8) dX12_beside_69 (by decide) ?_
  refine ev_iload_n dX12_beside_71 rfl ?_
  refine ev_imul dX12_beside_72 ?_
  first | refine ev_top (pk_mul _ _) ?_ | skip
  refine ev_iload_n dX12_beside_73 rfl ?_
  refine ev_iadd dX12_beside_74 ?_
  first | refine ev_top (nI_add _ _) ?_ | skip
  refine ev_goto (tgt := 79) dX12_beside_75 (by decide) ?_
  exact ev_iret dX12_beside_79 rfl rfl (by congr 3; congr 1; omega) rfl
set_option maxRecDepth 4000 in
theorem qX12_beside_2n {G : GX} {w : WS} {c : Nat} (hc : c < 64) (h : ¬ c < 56) : Big G 2 0 mX12_beside [.int (nI c), .int (nI 2)] w (.inl (some (.int (-1)))) w := by
  refine big_of (by decide +kernel) (Nat.le_of_ble_eq_true rfl) ?_
  show Ev G 2 0 mX12_beside 0 [some (.int (nI c)), some (.int (nI 2)), none, none] [] w _
  refine ev_iload_n dX12_beside_0 rfl ?_
  refine ev_bipush (v := nI 8) dX12_beside_1 (by decide) ?_
  refine ev_irem dX12_beside_3 (by decide) ?_
  refine ev_top (pk_rem (by omega) (by decide) (by decide)) ?_
  refine ev_iload_n dX12_beside_4 rfl ?_
  refine ev_iconst dX12_beside_5 ic1 ?_
  refine ev_icmp_ne_t (tgt := 13) dX12_beside_6 (by decide) (by decide) ?_
  refine ev_iload_n dX12_beside_13 rfl ?_
  refine ev_iconst dX12_beside_14 ic3 ?_
  refine ev_icmp_ne_t (tgt := 22) dX12_beside_15 (by decide) (by decide) ?_
  refine ev_iconst dX12_beside_22 ic0 ?_
  refine ev_iadd dX12_beside_23 ?_
  first | refine ev_top (nI_add _ _) ?_ | skip
  refine ev_ist2 dX12_beside_24 (by decide) rfl ?_
  refine ev_iload_n dX12_beside_25 rfl ?_
  refine ev_bipush (v := nI 8) dX12_beside_26 (by decide) ?_
  refine ev_idiv dX12_beside_28 (by decide) ?_
  refine ev_top (pk_div (by omega) (by decide) (by decide)) ?_
  refine ev_iload_n dX12_beside_29 rfl ?_
  refine ev_iconst dX12_beside_30 ic2 ?_
  refine ev_icmp_ne_f (tgt := 38) dX12_beside_31 (by decide) rfl ?_
  refine ev_iconst dX12_beside_34 ic1 ?_
  refine ev_goto (tgt := 47) dX12_beside_35 (by decide) ?_
  refine ev_iadd dX12_beside_47 ?_
  first | refine ev_top (nI_add _ _) ?_ | skip
  refine ev_ist3 dX12_beside_48 (by decide) rfl ?_
  refine ev_iload_n dX12_beside_49 rfl ?_
  refine ev_iconst dX12_beside_50 ic0 ?_
  refine ev_bipush (v := nI 7) dX12_beside_51 (by decide) ?_
  refine ev_callS kX12_63 (qX12_in_t (nI_le (Nat.zero_le _) (by omega)) (nI_le (by omega) (by decide))) dX12_beside_53 rfl (by decide) (by decide) rfl ?_
  refine ev_if_eq_f (tgt := 78) dX12_beside_56 (by decide) (by decide) ?_
  refine ev_iload_n dX12_beside_59 rfl ?_
  refine ev_iconst dX12_beside_60 ic0 ?_
  refine ev_bipush (v := nI 7) dX12_beside_61 (by decide) ?_
  refine ev_callS kX12_63 (qX12_in_f (Or.inr ((pk_lt' (by decide) (by omega)).mpr (by omega)))) dX12_beside_63 rfl (by decide) (by decide) rfl ?_
  refine ev_if_eq_t (tgt := 78) dX12_beside_66 (by decide) rfl ?_
  refine ev_iconst dX12_beside_78 icm1 ?_
  exact ev_iret dX12_beside_79 rfl rfl rfl rfl
set_option maxRecDepth 4000 in
theorem qX12_beside_3y {G : GX} {w : WS} {c : Nat} (hc : c < 64) (h : 0 < c % 8) : Big G 2 0 mX12_beside [.int (nI c), .int (nI 3)] w (.inl (some (.int (nI (c - 1))))) w := by
  refine big_of (by decide +kernel) (Nat.le_of_ble_eq_true rfl) ?_
  show Ev G 2 0 mX12_beside 0 [some (.int (nI c)), some (.int (nI 3)), none, none] [] w _
  refine ev_iload_n dX12_beside_0 rfl ?_
  refine ev_bipush (v := nI 8) dX12_beside_1 (by decide) ?_
  refine ev_irem dX12_beside_3 (by decide) ?_
  refine ev_top (pk_rem (by omega) (by decide) (by decide)) ?_
  refine ev_iload_n dX12_beside_4 rfl ?_
  refine ev_iconst dX12_beside_5 ic1 ?_
  refine ev_icmp_ne_t (tgt := 13) dX12_beside_6 (by decide) (by decide) ?_
  refine ev_iload_n dX12_beside_13 rfl ?_
  refine ev_iconst dX12_beside_14 ic3 ?_
  refine ev_icmp_ne_f (tgt := 22) dX12_beside_15 (by decide) rfl ?_
  refine ev_iconst dX12_beside_18 icm1 ?_
  refine ev_goto (tgt := 23) dX12_beside_19 (by decide) ?_
  refine ev_iadd dX12_beside_23 ?_
  refine ev_top (y := nI (c % 8 - 1)) (nI_p1 (by omega)) ?_
  refine ev_ist2 dX12_beside_24 (by decide) rfl ?_
  refine ev_iload_n dX12_beside_25 rfl ?_
  refine ev_bipush (v := nI 8) dX12_beside_26 (by decide) ?_
  refine ev_idiv dX12_beside_28 (by decide) ?_
  refine ev_top (pk_div (by omega) (by decide) (by decide)) ?_
  refine ev_iload_n dX12_beside_29 rfl ?_
  refine ev_iconst dX12_beside_30 ic2 ?_
  refine ev_icmp_ne_t (tgt := 38) dX12_beside_31 (by decide) (by decide) ?_
  refine ev_iload_n dX12_beside_38 rfl ?_
  refine ev_if_ne_t (tgt := 46) dX12_beside_39 (by decide) (by decide) ?_
  refine ev_iconst dX12_beside_46 ic0 ?_
  refine ev_iadd dX12_beside_47 ?_
  first | refine ev_top (nI_add _ _) ?_ | skip
  refine ev_ist3 dX12_beside_48 (by decide) rfl ?_
  refine ev_iload_n dX12_beside_49 rfl ?_
  refine ev_iconst dX12_beside_50 ic0 ?_
  refine ev_bipush (v := nI 7) dX12_beside_51 (by decide) ?_
  refine ev_callS kX12_63 (qX12_in_t (nI_le (Nat.zero_le _) (by omega)) (nI_le (by omega) (by decide))) dX12_beside_53 rfl (by decide) (by decide) rfl ?_
  refine ev_if_eq_f (tgt := 78) dX12_beside_56 (by decide) (by decide) ?_
  refine ev_iload_n dX12_beside_59 rfl ?_
  refine ev_iconst dX12_beside_60 ic0 ?_
  refine ev_bipush (v := nI 7) dX12_beside_61 (by decide) ?_
  refine ev_callS kX12_63 (qX12_in_t (nI_le (Nat.zero_le _) (by omega)) (nI_le (by omega) (by decide))) dX12_beside_63 rfl (by decide) (by decide) rfl ?_
  refine ev_if_eq_f (tgt := 78) dX12_beside_66 (by decide) (by decide) ?_
  refine ev_bipush (v := nI 8) dX12_beside_69 (by decide) ?_
  refine ev_iload_n dX12_beside_71 rfl ?_
  refine ev_imul dX12_beside_72 ?_
  first | refine ev_top (pk_mul _ _) ?_ | skip
  refine ev_iload_n dX12_beside_73 rfl ?_
  refine ev_iadd dX12_beside_74 ?_
  first | refine ev_top (nI_add _ _) ?_ | skip
  refine ev_goto (tgt := 79) dX12_beside_75 (by decide) ?_
  exact ev_iret dX12_beside_79 rfl rfl (by congr 3; congr 1; omega) rfl
set_option maxRecDepth 4000 in
theorem qX12_beside_3n {G : GX} {w : WS} {c : Nat} (hc : c < 64) (h : ¬ 0 < c % 8) : Big G 2 0 mX12_beside [.int (nI c), .int (nI 3)] w (.inl (some (.int (-1)))) w := by
  refine big_of (by decide +kernel) (Nat.le_of_ble_eq_true rfl) ?_
  show Ev G 2 0 mX12_beside 0 [some (.int (nI c)), some (.int (nI 3)), none, none] [] w _
  refine ev_iload_n dX12_beside_0 rfl ?_
  refine ev_bipush (v := nI 8) dX12_beside_1 (by decide) ?_
  refine ev_irem dX12_beside_3 (by decide) ?_
  refine ev_top (pk_rem (by omega) (by decide) (by decide)) ?_
  refine ev_iload_n dX12_beside_4 rfl ?_
  refine ev_iconst dX12_beside_5 ic1 ?_
  refine ev_icmp_ne_t (tgt := 13) dX12_beside_6 (by decide) (by decide) ?_
  refine ev_iload_n dX12_beside_13 rfl ?_
  refine ev_iconst dX12_beside_14 ic3 ?_
  refine ev_icmp_ne_f (tgt := 22) dX12_beside_15 (by decide) rfl ?_
  refine ev_iconst dX12_beside_18 icm1 ?_
  refine ev_goto (tgt := 23) dX12_beside_19 (by decide) ?_
  refine ev_iadd dX12_beside_23 ?_
  refine ev_top (y := -1) (by rw [show c % 8 = 0 by omega]; decide) ?_
  refine ev_ist2 dX12_beside_24 (by decide) rfl ?_
  refine ev_iload_n dX12_beside_25 rfl ?_
  refine ev_bipush (v := nI 8) dX12_beside_26 (by decide) ?_
  refine ev_idiv dX12_beside_28 (by decide) ?_
  refine ev_top (pk_div (by omega) (by decide) (by decide)) ?_
  refine ev_iload_n dX12_beside_29 rfl ?_
  refine ev_iconst dX12_beside_30 ic2 ?_
  refine ev_icmp_ne_t (tgt := 38) dX12_beside_31 (by decide) (by decide) ?_
  refine ev_iload_n dX12_beside_38 rfl ?_
  refine ev_if_ne_t (tgt := 46) dX12_beside_39 (by decide) (by decide) ?_
  refine ev_iconst dX12_beside_46 ic0 ?_
  refine ev_iadd dX12_beside_47 ?_
  first | refine ev_top (nI_add _ _) ?_ | skip
  refine ev_ist3 dX12_beside_48 (by decide) rfl ?_
  refine ev_iload_n dX12_beside_49 rfl ?_
  refine ev_iconst dX12_beside_50 ic0 ?_
  refine ev_bipush (v := nI 7) dX12_beside_51 (by decide) ?_
  refine ev_callS kX12_63 (qX12_in_f (Or.inl (by decide))) dX12_beside_53 rfl (by decide) (by decide) rfl ?_
  refine ev_if_eq_t (tgt := 78) dX12_beside_56 (by decide) rfl ?_
  refine ev_iconst dX12_beside_78 icm1 ?_
  exact ev_iret dX12_beside_79 rfl rfl rfl rfl
theorem qX12_beside {G : GX} {w : WS} {c d : Nat} (hc : c < 64) (hd : d < 4) : Big G 2 0 mX12_beside [.int (nI c), .int (nI d)] w (.inl (some (.int (oI (nb c d))))) w := by
  obtain rfl | rfl | rfl | rfl : d = 0 ∨ d = 1 ∨ d = 2 ∨ d = 3 := by omega
  · by_cases h : 8 ≤ c
    · rw [show nb c 0 = some (c - 8) from if_pos h]; exact qX12_beside_0y hc h
    · rw [show nb c 0 = none from if_neg h]; exact qX12_beside_0n hc h
  · by_cases h : c % 8 < 7
    · rw [show nb c 1 = some (c + 1) from if_pos h]; exact qX12_beside_1y hc h
    · rw [show nb c 1 = none from if_neg h]; exact qX12_beside_1n hc h
  · by_cases h : c < 56
    · rw [show nb c 2 = some (c + 8) from if_pos h]; exact qX12_beside_2y hc h
    · rw [show nb c 2 = none from if_neg h]; exact qX12_beside_2n hc h
  · by_cases h : 0 < c % 8
    · rw [show nb c 3 = some (c - 1) from if_pos h]; exact qX12_beside_3y hc h
    · rw [show nb c 3 = none from if_neg h]; exact qX12_beside_3n hc h
theorem oI_lt {o : Option Nat} (h : ∀ k, o = some k → k < 2 ^ 31) : oI o < 0 ↔ o = none := by
  cases o with
  | none => exact ⟨fun _ => rfl, fun _ => (by decide : (-1 : Int32) < 0)⟩
  | some k => exact ⟨fun q => absurd q (nI_pos (h k rfl)), fun q => by cases q⟩
theorem sO_lt {S : ST} (hk : okS S) {c : Nat} (hc : c < 64) : sO S c < 0 ↔ sO S c = -1 := by
  rcases hk.1 c hc with q | ⟨k, hk, q⟩
  · rw [q]; exact ⟨fun _ => rfl, fun _ => by decide⟩
  · rw [q]; exact ⟨fun z => absurd z (nI_pos (by omega)), fun z => absurd z (nI_m1 (by omega))⟩
theorem fnd_s (p : Nat → Bool) (n : Nat) : (List.range (n + 1)).find? p = match (List.range n).find? p with
    | some i => some i
    | none => if p n = true then some n else none := by
  rw [List.range_succ, List.find?_append]
  cases e : (List.range n).find? p with
  | some i => rfl
  | none =>
    rw [Option.none_or]
    by_cases h : p n = true
    · rw [if_pos h]; simp [h]
    · rw [if_neg h]; simp [h]
set_option maxRecDepth 4000 in
theorem qX12_cellsOf {G : GX} {w : WS} {S : ST} (hS : mR S w) {r : Int32} : Big G 2 0 mX12_cellsOf [.ref 115, .int r] w (.inl (some (.int (nI (cO S r))))) w := by
  refine big_of (by decide +kernel) (Nat.le_of_ble_eq_true rfl) ?_
  have hS0 := hS
  obtain ⟨⟨q0, q1, ⟨m0, m1, m2, m3, m4⟩, qr, qc, qv, qd⟩, hk1, hk2, hk3, hk4⟩ := hS
  have h4 := hk2.1
  have h5 := hk3.1
  show Ev G 2 0 mX12_cellsOf 0 [some (.ref 115), some (.int r), none, none] [] w _
  refine ev_iconst dX12_cellsOf_0 ic0 ?_
  refine ev_ist2 dX12_cellsOf_1 (by decide) rfl ?_
  refine ev_iconst dX12_cellsOf_2 ic0 ?_
  refine ev_ist3 dX12_cellsOf_3 (by decide) rfl ?_
  have lp : ∀ (n9 j : Nat) , j + n9 = 64 → Ev G 2 0 mX12_cellsOf 4 [some (.ref 115), some (.int r), some (.int (nI (ct (fun c => sO S c == r) j))), some (.int (nI j))] [] w (zu_ G (.inl (some (.int (nI (cO S r))))) w) := by
    intro n9
    induction n9 with
    | zero =>
      intro j  hi9 
      refine ev_iload_n dX12_cellsOf_4 rfl ?_
      refine ev_bipush (v := nI 64) dX12_cellsOf_5 (by decide) ?_
      refine ev_icmp_ge_t (tgt := 33) dX12_cellsOf_7 (by decide) (nI_le (by omega) (by omega)) ?_
      refine ev_iload_n dX12_cellsOf_33 rfl ?_
      exact ev_iret dX12_cellsOf_34 rfl rfl (by rw [show j = 64 by omega]; rfl) rfl
    | succ n9 ih =>
      intro j  hi9 
      refine ev_iload_n dX12_cellsOf_4 rfl ?_
      refine ev_bipush (v := nI 64) dX12_cellsOf_5 (by decide) ?_
      refine ev_icmp_ge_f (tgt := 33) dX12_cellsOf_7 (by decide) (nI_ge (by omega) (by decide)) ?_
      refine ev_iload_n dX12_cellsOf_10 rfl ?_
      refine ev_aload_n dX12_cellsOf_11 rfl ?_
      refine ev_iload_n dX12_cellsOf_12 rfl ?_
      refine ev_callV kX12_67 co115 (qX12_at hS0 (by omega)) dX12_cellsOf_13 rfl (by decide) (by decide) rfl ?_
      refine ev_iload_n dX12_cellsOf_16 rfl ?_
      refine ev_icmp_ne (tgt := 24) dX12_cellsOf_17 (by decide) (fun hc17 => ?_) (fun hc17 => ?_)
      · refine ev_iconst dX12_cellsOf_24 ic0 ?_
        refine ev_iadd dX12_cellsOf_25 ?_
        refine ev_top (y := nI (ct (fun c => sO S c == r) (j + 1))) (by rw [nI_add, ct_f (p := (fun c => sO S c == r)) (beq_eq_false_iff_ne.mpr hc17)]; rfl) ?_
        refine ev_ist2 dX12_cellsOf_26 (by decide) rfl ?_
        refine ev_iinc3 dX12_cellsOf_27 (nI_inc _) (by decide) rfl ?_
        refine ev_goto (tgt := 4) dX12_cellsOf_30 (by decide) ?_
        exact ih (j + 1) (by omega)
      · refine ev_iconst dX12_cellsOf_20 ic1 ?_
        refine ev_goto (tgt := 25) dX12_cellsOf_21 (by decide) ?_
        refine ev_iadd dX12_cellsOf_25 ?_
        refine ev_top (y := nI (ct (fun c => sO S c == r) (j + 1))) (by rw [nI_add, ct_t (p := (fun c => sO S c == r)) (beq_iff_eq.mpr hc17)]) ?_
        refine ev_ist2 dX12_cellsOf_26 (by decide) rfl ?_
        refine ev_iinc3 dX12_cellsOf_27 (nI_inc _) (by decide) rfl ?_
        refine ev_goto (tgt := 4) dX12_cellsOf_30 (by decide) ?_
        exact ih (j + 1) (by omega)
  exact lp 64 0 rfl
set_option maxRecDepth 4000 in
theorem qX12_dragonOn {G : GX} {w : WS} {S : ST} (hS : mR S w) {c : Nat} (hc : c < 64) : Big G 1 0 mX12_dragonOn [.ref 115, .int (nI c)] w (.inl (some (.int (oI (dOn S c))))) w := by
  refine big_of (by decide +kernel) (Nat.le_of_ble_eq_true rfl) ?_
  have hS0 := hS
  obtain ⟨⟨q0, q1, ⟨m0, m1, m2, m3, m4⟩, qr, qc, qv, qd⟩, hk1, hk2, hk3, hk4⟩ := hS
  have h4 := hk2.1
  have h5 := hk3.1
  show Ev G 1 0 mX12_dragonOn 0 [some (.ref 115), some (.int (nI c)), none, none] [] w _
  refine ev_iconst dX12_dragonOn_0 icm1 ?_
  refine ev_ist2 dX12_dragonOn_1 (by decide) rfl ?_
  refine ev_iconst dX12_dragonOn_2 ic0 ?_
  refine ev_ist3 dX12_dragonOn_3 (by decide) rfl ?_
  have lp : ∀ (n9 j : Nat) , j + n9 = nD S → Ev G 1 0 mX12_dragonOn 4 [some (.ref 115), some (.int (nI c)), some (.int (oI ((List.range j).find? (fun i => dC S i == c)))), some (.int (nI j))] [] w (zu_ G (.inl (some (.int (oI (dOn S c))))) w) := by
    intro n9
    induction n9 with
    | zero =>
      intro j  hi9 
      refine ev_iload_n dX12_dragonOn_4 rfl ?_
      refine ev_aload_n dX12_dragonOn_5 rfl ?_
      refine ev_getR fX12_9 dX12_dragonOn_6 (by decide) sh115 rfl ?_
      refine ev_iconst dX12_dragonOn_9 ic1 ?_
      refine ev_iaload dX12_dragonOn_10 rfl (by omega) (by decide) sh116 ?_
      refine ev_top q1 ?_
      refine ev_icmp_ge_t (tgt := 42) dX12_dragonOn_11 (by decide) (nI_le (by omega) (by omega)) ?_
      refine ev_iload_n dX12_dragonOn_42 rfl ?_
      exact ev_iret dX12_dragonOn_43 rfl rfl (by rw [show j = nD S by omega]; rfl) rfl
    | succ n9 ih =>
      intro j  hi9 
      refine ev_iload_n dX12_dragonOn_4 rfl ?_
      refine ev_aload_n dX12_dragonOn_5 rfl ?_
      refine ev_getR fX12_9 dX12_dragonOn_6 (by decide) sh115 rfl ?_
      refine ev_iconst dX12_dragonOn_9 ic1 ?_
      refine ev_iaload dX12_dragonOn_10 rfl (by omega) (by decide) sh116 ?_
      refine ev_top q1 ?_
      refine ev_icmp_ge_f (tgt := 42) dX12_dragonOn_11 (by decide) (nI_ge (by omega) (by omega)) ?_
      refine ev_aload_n dX12_dragonOn_14 rfl ?_
      refine ev_getR fX12_9 dX12_dragonOn_15 (by decide) sh115 rfl ?_
      refine ev_sipush (v := nI 143) dX12_dragonOn_18 (by decide) ?_
      refine ev_iconst dX12_dragonOn_21 ic3 ?_
      refine ev_iload_n dX12_dragonOn_22 rfl ?_
      refine ev_imul dX12_dragonOn_23 ?_
      first | refine ev_top (pk_mul _ _) ?_ | skip
      refine ev_iadd dX12_dragonOn_24 ?_
      first | refine ev_top (nI_add _ _) ?_ | skip
      refine ev_iaload dX12_dragonOn_25 rfl (by omega) (by decide) sh116 ?_
      refine ev_top (qd j (by omega)).1 ?_
      refine ev_iload_n dX12_dragonOn_26 rfl ?_
      refine ev_icmp_ne (tgt := 34) dX12_dragonOn_27 (by decide) (fun hc27 => ?_) (fun hc27 => ?_)
      · have e27 : ((List.range (j + 1)).find? (fun i => dC S i == c)) = ((List.range j).find? (fun i => dC S i == c)) := by
          rw [fnd_s]
          cases e : ((List.range j).find? (fun i => dC S i == c)) with
          | some i => rfl
          | none => exact if_neg (fun q => hc27 (by rw [beq_iff_eq.mp q]))
        rw [← e27]
        refine ev_iload_n dX12_dragonOn_34 rfl ?_
        refine ev_ist2 dX12_dragonOn_35 (by decide) rfl ?_
        refine ev_iinc3 dX12_dragonOn_36 (nI_inc _) (by decide) rfl ?_
        refine ev_goto (tgt := 4) dX12_dragonOn_39 (by decide) ?_
        exact ih (j + 1) (by omega)
      · have e0 : dC S j = c := nI_inj (by have := (hk3.2.1 j (by omega)).1; omega) (by omega) hc27
        have e27 : ((List.range (j + 1)).find? (fun i => dC S i == c)) = some j := by
          rw [fnd_s]
          cases e : ((List.range j).find? (fun i => dC S i == c)) with
          | some i =>
            have h1 := List.mem_range.mp (List.mem_of_find?_eq_some e)
            have h2 : dC S i = c := by simpa using List.find?_some e
            exact absurd (hk3.2.2 i j (by omega) (by omega) (h2.trans e0.symm)) (by omega)
          | none => exact if_pos (beq_iff_eq.mpr e0)
        have e28 : nI j = oI ((List.range (j + 1)).find? (fun i => dC S i == c)) := by rw [e27]; rfl
        refine ev_iload_n dX12_dragonOn_30 rfl ?_
        refine ev_goto (tgt := 35) dX12_dragonOn_31 (by decide) ?_
        refine ev_top e28 ?_
        refine ev_ist2 dX12_dragonOn_35 (by decide) rfl ?_
        
        refine ev_iinc3 dX12_dragonOn_36 (nI_inc _) (by decide) rfl ?_
        refine ev_goto (tgt := 4) dX12_dragonOn_39 (by decide) ?_
        exact ih (j + 1) (by omega)
  exact lp (nD S) 0 (Nat.zero_add _)
theorem any_s (p : Nat → Bool) (n : Nat) : (List.range (n + 1)).any p = ((List.range n).any p || p n) := by
  rw [List.range_succ, List.any_append]
  simp
def hnd (S : ST) (c : Nat) (r : Int32) : Nat := if sO S c = -1 then 3 else if bes S c r = false then 4 else if cO S (sO S c) = 1 then 5 else 0
theorem shS_h {S : ST} {c : Nat} {r : Int32} (h : ¬ sO S c = r) : shS S c r = hnd S c r := by
  unfold shS hnd
  rw [if_neg h]
set_option maxRecDepth 4000 in
theorem qX12_isBeside {G : GX} {w : WS} {S : ST} (hS : mR S w) {c : Nat} (hc : c < 64) {r : Int32} : Big G 3 0 mX12_isBeside [.ref 115, .int (nI c), .int r] w (.inl (some (.int (bI (bes S c r))))) w := by
  refine big_of (by decide +kernel) (Nat.le_of_ble_eq_true rfl) ?_
  have hS0 := hS
  obtain ⟨⟨q0, q1, ⟨m0, m1, m2, m3, m4⟩, qr, qc, qv, qd⟩, hk1, hk2, hk3, hk4⟩ := hS
  have h4 := hk2.1
  have h5 := hk3.1
  show Ev G 3 0 mX12_isBeside 0 [some (.ref 115), some (.int (nI c)), some (.int r), none, none] [] w _
  refine ev_iconst dX12_isBeside_0 ic0 ?_
  refine ev_ist3 dX12_isBeside_1 (by decide) rfl ?_
  refine ev_iconst dX12_isBeside_2 ic0 ?_
  refine ev_ist4 dX12_isBeside_3 (by decide) rfl ?_
  have lp : ∀ (n9 j : Nat) , j + n9 = 4 → Ev G 3 0 mX12_isBeside 5 [some (.ref 115), some (.int (nI c)), some (.int r), some (.int (bI ((List.range j).any (hb S c r)))), some (.int (nI j))] [] w (zu_ G (.inl (some (.int (bI (bes S c r))))) w) := by
    intro n9
    induction n9 with
    | zero =>
      intro j  hi9 
      refine ev_iload dX12_isBeside_5 rfl ?_
      refine ev_iconst dX12_isBeside_7 ic4 ?_
      refine ev_icmp_ge_t (tgt := 50) dX12_isBeside_8 (by decide) (nI_le (by omega) (by omega)) ?_
      refine ev_iload_n dX12_isBeside_50 rfl ?_
      exact ev_iret dX12_isBeside_51 rfl (bI_n _) (by rw [show j = 4 by omega]; rfl) rfl
    | succ n9 ih =>
      intro j  hi9 
      refine ev_iload dX12_isBeside_5 rfl ?_
      refine ev_iconst dX12_isBeside_7 ic4 ?_
      refine ev_icmp_ge_f (tgt := 50) dX12_isBeside_8 (by decide) (nI_ge (by omega) (by decide)) ?_
      have ob : ∀ k, nb c j = some k → k < 2 ^ 31 := fun k hk => by have := nb_lt hc hk; omega
      refine ev_iload_n dX12_isBeside_11 rfl ?_
      refine ev_ifb_ne (tgt := 38) dX12_isBeside_12 (by decide) (fun hc12 => ?_) (fun hc12 => ?_)
      · refine ev_iconst dX12_isBeside_38 ic1 ?_
        refine ev_goto (tgt := 43) dX12_isBeside_39 (by decide) ?_
        refine ev_top (y := bI ((List.range (j + 1)).any (hb S c r))) (by rw [any_s, hc12]; rfl) ?_
        refine ev_ist3 dX12_isBeside_43 (by decide) rfl ?_
        refine ev_iinc4 dX12_isBeside_44 (nI_inc _) (by decide) rfl ?_
        refine ev_goto (tgt := 5) dX12_isBeside_47 (by decide) ?_
        exact ih (j + 1) (by omega)
      · 
        refine ev_iload_n dX12_isBeside_15 rfl ?_
        refine ev_iload dX12_isBeside_16 rfl ?_
        refine ev_callS kX12_103 (qX12_beside hc (by omega)) dX12_isBeside_18 rfl (by decide) (by decide) rfl ?_
        refine ev_if_lt (tgt := 42) dX12_isBeside_21 (by decide) (fun hc21 => ?_) (fun hc21 => ?_)
        · have e21 : nb c j = none := (oI_lt ob).mp hc21
          have eh : hb S c r j = false := by unfold hb; rw [e21]
          refine ev_iconst dX12_isBeside_42 ic0 ?_
          refine ev_top (y := bI ((List.range (j + 1)).any (hb S c r))) (by rw [any_s, hc12, eh]; rfl) ?_
          refine ev_ist3 dX12_isBeside_43 (by decide) rfl ?_
          refine ev_iinc4 dX12_isBeside_44 (nI_inc _) (by decide) rfl ?_
          refine ev_goto (tgt := 5) dX12_isBeside_47 (by decide) ?_
          exact ih (j + 1) (by omega)
        · obtain ⟨y, e21⟩ : ∃ y, nb c j = some y := by
            cases e : nb c j with
            | none => exact absurd ((oI_lt ob).mpr e) hc21
            | some y => exact ⟨y, rfl⟩
          have hy := nb_lt hc e21
          refine ev_aload_n dX12_isBeside_24 rfl ?_
          refine ev_iload_n dX12_isBeside_25 rfl ?_
          refine ev_iload dX12_isBeside_26 rfl ?_
          refine ev_callS kX12_103 (qX12_beside hc (by omega)) dX12_isBeside_28 rfl (by decide) (by decide) rfl ?_
          rw [e21]
          refine ev_callV kX12_67 co115 (qX12_at hS0 hy) dX12_isBeside_31 rfl (by decide) (by decide) rfl ?_
          refine ev_iload_n dX12_isBeside_34 rfl ?_
          refine ev_icmp_ne (tgt := 42) dX12_isBeside_35 (by decide) (fun hc35 => ?_) (fun hc35 => ?_)
          · have eh : hb S c r j = false := by unfold hb; rw [e21]; exact beq_eq_false_iff_ne.mpr hc35
            refine ev_iconst dX12_isBeside_42 ic0 ?_
            refine ev_top (y := bI ((List.range (j + 1)).any (hb S c r))) (by rw [any_s, hc12, eh]; rfl) ?_
            refine ev_ist3 dX12_isBeside_43 (by decide) rfl ?_
            refine ev_iinc4 dX12_isBeside_44 (nI_inc _) (by decide) rfl ?_
            refine ev_goto (tgt := 5) dX12_isBeside_47 (by decide) ?_
            exact ih (j + 1) (by omega)
          · have eh : hb S c r j = true := by unfold hb; rw [e21]; exact beq_iff_eq.mpr hc35
            refine ev_iconst dX12_isBeside_38 ic1 ?_
            refine ev_goto (tgt := 43) dX12_isBeside_39 (by decide) ?_
            refine ev_top (y := bI ((List.range (j + 1)).any (hb S c r))) (by rw [any_s, hc12, eh]; rfl) ?_
            refine ev_ist3 dX12_isBeside_43 (by decide) rfl ?_
            refine ev_iinc4 dX12_isBeside_44 (nI_inc _) (by decide) rfl ?_
            refine ev_goto (tgt := 5) dX12_isBeside_47 (by decide) ?_
            exact ih (j + 1) (by omega)
  exact lp 4 0 rfl
set_option maxRecDepth 4000 in
theorem qX12_hinders {G : GX} {w : WS} {S : ST} (hS : mR S w) {c : Nat} (hc : c < 64) {r : Int32} : Big G 4 0 mX12_hinders [.ref 115, .int (nI c), .int r] w (.inl (some (.int (nI (hnd S c r))))) w := by
  refine big_of (by decide +kernel) (Nat.le_of_ble_eq_true rfl) ?_
  have hS0 := hS
  obtain ⟨⟨q0, q1, ⟨m0, m1, m2, m3, m4⟩, qr, qc, qv, qd⟩, hk1, hk2, hk3, hk4⟩ := hS
  have h4 := hk2.1
  have h5 := hk3.1
  show Ev G 4 0 mX12_hinders 0 [some (.ref 115), some (.int (nI c)), some (.int r)] [] w _
  refine ev_aload_n dX12_hinders_0 rfl ?_
  refine ev_iload_n dX12_hinders_1 rfl ?_
  refine ev_callV kX12_67 co115 (qX12_at hS0 hc) dX12_hinders_2 rfl (by decide) (by decide) rfl ?_
  refine ev_if_ge (tgt := 12) dX12_hinders_5 (by decide) (fun hc5 => ?_) (fun hc5 => ?_)
  · have e5 : ¬ sO S c = -1 := fun q => absurd ((sO_lt hS0.2 hc).mpr q) (Int32.not_lt.mpr hc5)
    refine ev_aload_n dX12_hinders_12 rfl ?_
    refine ev_iload_n dX12_hinders_13 rfl ?_
    refine ev_iload_n dX12_hinders_14 rfl ?_
    refine ev_callV kX12_106 co115 (qX12_isBeside hS0 hc) dX12_hinders_15 rfl (by decide) (by decide) rfl ?_
    refine ev_ifb_ne (tgt := 25) dX12_hinders_18 (by decide) (fun hc18 => ?_) (fun hc18 => ?_)
    · have e18 : ¬ bes S c r = false := by rw [hc18]; decide
      refine ev_aload_n dX12_hinders_25 rfl ?_
      refine ev_aload_n dX12_hinders_26 rfl ?_
      refine ev_iload_n dX12_hinders_27 rfl ?_
      refine ev_callV kX12_67 co115 (qX12_at hS0 hc) dX12_hinders_28 rfl (by decide) (by decide) rfl ?_
      refine ev_callV kX12_110 co115 (qX12_cellsOf hS0) dX12_hinders_31 rfl (by decide) (by decide) rfl ?_
      refine ev_iconst dX12_hinders_34 ic1 ?_
      refine ev_icmp_ne (tgt := 42) dX12_hinders_35 (by decide) (fun hc35 => ?_) (fun hc35 => ?_)
      · have e35 : ¬ cO S (sO S c) = 1 := fun q => hc35 (by rw [q])
        refine ev_iconst dX12_hinders_42 ic0 ?_
        exact ev_iret dX12_hinders_43 rfl rfl (by unfold hnd; rw [if_neg e5, if_neg e18, if_neg e35]) rfl
      · have e35 : cO S (sO S c) = 1 := nI_inj (by have := ct_le (fun k => sO S k == sO S c) 64; unfold cO; omega) (by decide) hc35
        refine ev_iconst dX12_hinders_38 ic5 ?_
        refine ev_goto (tgt := 43) dX12_hinders_39 (by decide) ?_
        exact ev_iret dX12_hinders_43 rfl rfl (by unfold hnd; rw [if_neg e5, if_neg e18, if_pos e35]) rfl
    · refine ev_iconst dX12_hinders_21 ic4 ?_
      refine ev_goto (tgt := 43) dX12_hinders_22 (by decide) ?_
      exact ev_iret dX12_hinders_43 rfl rfl (by unfold hnd; rw [if_neg e5, if_pos hc18]) rfl
  · have e5 : sO S c = -1 := (sO_lt hS0.2 hc).mp (Int32.not_le.mp hc5)
    refine ev_iconst dX12_hinders_8 ic3 ?_
    refine ev_goto (tgt := 43) dX12_hinders_9 (by decide) ?_
    exact ev_iret dX12_hinders_43 rfl rfl (by unfold hnd; rw [if_pos e5]) rfl
theorem out_m {n : Nat} {x : Int32} (h : out_ n x) (hn : n < 2 ^ 30) : x < nI 0 ∨ nI n - nI 1 < x := by
  rcases h with q | q
  · exact Or.inl q
  · cases n with
    | zero =>
      right
      refine Int32.lt_of_lt_of_le (by decide) q
    | succ n =>
      right
      rw [pk_sub (Nat.succ_le_succ (Nat.zero_le _))]
      exact nI_lt10 (by omega) q
set_option maxRecDepth 4000 in
theorem qX12_isRiver_y {G : GX} {w : WS} {S : ST} (hS : mR S w) {k : Nat} (hk : k < nR S) : Big G 2 0 mX12_isRiver [.ref 115, .int (nI k)] w (.inl (some (.int (bI true)))) w := by
  refine big_of (by decide +kernel) (Nat.le_of_ble_eq_true rfl) ?_
  have hS0 := hS
  obtain ⟨⟨q0, q1, ⟨m0, m1, m2, m3, m4⟩, qr, qc, qv, qd⟩, hk1, hk2, hk3, hk4⟩ := hS
  have h4 := hk2.1
  have h5 := hk3.1
  show Ev G 2 0 mX12_isRiver 0 [some (.ref 115), some (.int (nI k))] [] w _
  refine ev_iload_n dX12_isRiver_0 rfl ?_
  refine ev_iconst dX12_isRiver_1 ic0 ?_
  refine ev_aload_n dX12_isRiver_2 rfl ?_
  refine ev_getR fX12_9 dX12_isRiver_3 (by decide) sh115 rfl ?_
  refine ev_iconst dX12_isRiver_6 ic0 ?_
  refine ev_iaload dX12_isRiver_7 rfl (by omega) (by decide) sh116 ?_
  refine ev_top q0 ?_
  refine ev_iconst dX12_isRiver_8 ic1 ?_
  refine ev_isub dX12_isRiver_9 ?_
  first | refine ev_top (pk_sub (by omega)) ?_ | skip
  refine ev_callS kX12_63 (qX12_in_t (nI_le (Nat.zero_le _) (by omega)) (nI_le (by omega) (by omega))) dX12_isRiver_10 rfl (by decide) (by decide) rfl ?_
  exact ev_iret dX12_isRiver_13 rfl (by decide) rfl rfl
set_option maxRecDepth 4000 in
theorem qX12_isRiver_n {G : GX} {w : WS} {S : ST} (hS : mR S w) {x : Int32} (hx : out_ (nR S) x) : Big G 2 0 mX12_isRiver [.ref 115, .int x] w (.inl (some (.int (bI false)))) w := by
  refine big_of (by decide +kernel) (Nat.le_of_ble_eq_true rfl) ?_
  have hS0 := hS
  obtain ⟨⟨q0, q1, ⟨m0, m1, m2, m3, m4⟩, qr, qc, qv, qd⟩, hk1, hk2, hk3, hk4⟩ := hS
  have h4 := hk2.1
  have h5 := hk3.1
  show Ev G 2 0 mX12_isRiver 0 [some (.ref 115), some (.int x)] [] w _
  refine ev_iload_n dX12_isRiver_0 rfl ?_
  refine ev_iconst dX12_isRiver_1 ic0 ?_
  refine ev_aload_n dX12_isRiver_2 rfl ?_
  refine ev_getR fX12_9 dX12_isRiver_3 (by decide) sh115 rfl ?_
  refine ev_iconst dX12_isRiver_6 ic0 ?_
  refine ev_iaload dX12_isRiver_7 rfl (by omega) (by decide) sh116 ?_
  refine ev_top q0 ?_
  refine ev_iconst dX12_isRiver_8 ic1 ?_
  refine ev_isub dX12_isRiver_9 ?_
  refine ev_top rfl ?_
  refine ev_callS kX12_63 (qX12_in_f (out_m hx (by omega))) dX12_isRiver_10 rfl (by decide) (by decide) rfl ?_
  exact ev_iret dX12_isRiver_13 rfl (by decide) rfl rfl
set_option maxRecDepth 4000 in
theorem qX12_isDragon_y {G : GX} {w : WS} {S : ST} (hS : mR S w) {k : Nat} (hk : k < nD S) : Big G 2 0 mX12_isDragon [.ref 115, .int (nI k)] w (.inl (some (.int (bI true)))) w := by
  refine big_of (by decide +kernel) (Nat.le_of_ble_eq_true rfl) ?_
  have hS0 := hS
  obtain ⟨⟨q0, q1, ⟨m0, m1, m2, m3, m4⟩, qr, qc, qv, qd⟩, hk1, hk2, hk3, hk4⟩ := hS
  have h4 := hk2.1
  have h5 := hk3.1
  show Ev G 2 0 mX12_isDragon 0 [some (.ref 115), some (.int (nI k))] [] w _
  refine ev_iload_n dX12_isDragon_0 rfl ?_
  refine ev_iconst dX12_isDragon_1 ic0 ?_
  refine ev_aload_n dX12_isDragon_2 rfl ?_
  refine ev_getR fX12_9 dX12_isDragon_3 (by decide) sh115 rfl ?_
  refine ev_iconst dX12_isDragon_6 ic1 ?_
  refine ev_iaload dX12_isDragon_7 rfl (by omega) (by decide) sh116 ?_
  refine ev_top q1 ?_
  refine ev_iconst dX12_isDragon_8 ic1 ?_
  refine ev_isub dX12_isDragon_9 ?_
  first | refine ev_top (pk_sub (by omega)) ?_ | skip
  refine ev_callS kX12_63 (qX12_in_t (nI_le (Nat.zero_le _) (by omega)) (nI_le (by omega) (by omega))) dX12_isDragon_10 rfl (by decide) (by decide) rfl ?_
  exact ev_iret dX12_isDragon_13 rfl (by decide) rfl rfl
set_option maxRecDepth 4000 in
theorem qX12_isDragon_n {G : GX} {w : WS} {S : ST} (hS : mR S w) {x : Int32} (hx : out_ (nD S) x) : Big G 2 0 mX12_isDragon [.ref 115, .int x] w (.inl (some (.int (bI false)))) w := by
  refine big_of (by decide +kernel) (Nat.le_of_ble_eq_true rfl) ?_
  have hS0 := hS
  obtain ⟨⟨q0, q1, ⟨m0, m1, m2, m3, m4⟩, qr, qc, qv, qd⟩, hk1, hk2, hk3, hk4⟩ := hS
  have h4 := hk2.1
  have h5 := hk3.1
  show Ev G 2 0 mX12_isDragon 0 [some (.ref 115), some (.int x)] [] w _
  refine ev_iload_n dX12_isDragon_0 rfl ?_
  refine ev_iconst dX12_isDragon_1 ic0 ?_
  refine ev_aload_n dX12_isDragon_2 rfl ?_
  refine ev_getR fX12_9 dX12_isDragon_3 (by decide) sh115 rfl ?_
  refine ev_iconst dX12_isDragon_6 ic1 ?_
  refine ev_iaload dX12_isDragon_7 rfl (by omega) (by decide) sh116 ?_
  refine ev_top q1 ?_
  refine ev_iconst dX12_isDragon_8 ic1 ?_
  refine ev_isub dX12_isDragon_9 ?_
  refine ev_top rfl ?_
  refine ev_callS kX12_63 (qX12_in_f (out_m hx (by omega))) dX12_isDragon_10 rfl (by decide) (by decide) rfl ?_
  exact ev_iret dX12_isDragon_13 rfl (by decide) rfl rfl
set_option maxRecDepth 4000 in
theorem qX12_steps {G : GX} {w : WS} {S : ST} (hS : mR S w) {i : Nat} (hi : i < nR S) : Big G 1 0 mX12_steps [.ref 115, .int (nI i)] w (.inl (some (.int (nI (rN S i))))) w := by
  refine big_of (by decide +kernel) (Nat.le_of_ble_eq_true rfl) ?_
  have hS0 := hS
  obtain ⟨⟨q0, q1, ⟨m0, m1, m2, m3, m4⟩, qr, qc, qv, qd⟩, hk1, hk2, hk3, hk4⟩ := hS
  have h4 := hk2.1
  have h5 := hk3.1
  show Ev G 1 0 mX12_steps 0 [some (.ref 115), some (.int (nI i))] [] w _
  refine ev_aload_n dX12_steps_0 rfl ?_
  refine ev_getR fX12_9 dX12_steps_1 (by decide) sh115 rfl ?_
  refine ev_bipush (v := nI 83) dX12_steps_4 (by decide) ?_
  refine ev_bipush (v := nI 15) dX12_steps_6 (by decide) ?_
  refine ev_iload_n dX12_steps_8 rfl ?_
  refine ev_imul dX12_steps_9 ?_
  first | refine ev_top (pk_mul _ _) ?_ | skip
  refine ev_iadd dX12_steps_10 ?_
  first | refine ev_top (nI_add _ _) ?_ | skip
  refine ev_iconst dX12_steps_11 ic2 ?_
  refine ev_iadd dX12_steps_12 ?_
  first | refine ev_top (nI_add _ _) ?_ | skip
  refine ev_iaload dX12_steps_13 rfl (by omega) (by decide) sh116 ?_
  refine ev_top (qv i hi).2.2.1 ?_
  exact ev_iret dX12_steps_14 rfl rfl rfl rfl
set_option maxRecDepth 4000 in
theorem qX12_cellOf {G : GX} {w : WS} {S : ST} (hS : mR S w) {i : Nat} (hi : i < nR S) {p : Nat} (hp : p ≤ rN S i) : Big G 3 0 mX12_cellOf [.ref 115, .int (nI i), .int (nI p)] w (.inl (some (.int (nI (rP S i p))))) w := by
  refine big_of (by decide +kernel) (Nat.le_of_ble_eq_true rfl) ?_
  have hS0 := hS
  obtain ⟨⟨q0, q1, ⟨m0, m1, m2, m3, m4⟩, qr, qc, qv, qd⟩, hk1, hk2, hk3, hk4⟩ := hS
  have h4 := hk2.1
  have h5 := hk3.1
  obtain ⟨-, hr1, hr12, hkp, -⟩ := hk2.2 i hi
  show Ev G 3 0 mX12_cellOf 0 [some (.ref 115), some (.int (nI i)), some (.int (nI p)), none, none, none] [] w _
  refine ev_bipush (v := nI 83) dX12_cellOf_0 (by decide) ?_
  refine ev_bipush (v := nI 15) dX12_cellOf_2 (by decide) ?_
  refine ev_iload_n dX12_cellOf_4 rfl ?_
  refine ev_imul dX12_cellOf_5 ?_
  first | refine ev_top (pk_mul _ _) ?_ | skip
  refine ev_iadd dX12_cellOf_6 ?_
  first | refine ev_top (nI_add _ _) ?_ | skip
  refine ev_ist3 dX12_cellOf_7 (by decide) rfl ?_
  refine ev_aload_n dX12_cellOf_8 rfl ?_
  refine ev_getR fX12_9 dX12_cellOf_9 (by decide) sh115 rfl ?_
  refine ev_iload_n dX12_cellOf_12 rfl ?_
  refine ev_iaload dX12_cellOf_13 rfl (by omega) (by decide) sh116 ?_
  refine ev_top (qv i hi).1 ?_
  refine ev_ist4 dX12_cellOf_14 (by decide) rfl ?_
  refine ev_iconst dX12_cellOf_16 ic0 ?_
  refine ev_ist5 dX12_cellOf_17 (by decide) rfl ?_
  have lp : ∀ (n9 j : Nat) , j + n9 = p → Ev G 3 0 mX12_cellOf 19 [some (.ref 115), some (.int (nI i)), some (.int (nI p)), some (.int (nI (83 + 15 * i))), some (.int (nI (rP S i j))), some (.int (nI j))] [] w (zu_ G (.inl (some (.int (nI (rP S i p))))) w) := by
    intro n9
    induction n9 with
    | zero =>
      intro j  hi9 
      refine ev_iload dX12_cellOf_19 rfl ?_
      refine ev_iload_n dX12_cellOf_21 rfl ?_
      refine ev_icmp_ge_t (tgt := 49) dX12_cellOf_22 (by decide) (nI_le (by omega) (by omega)) ?_
      refine ev_iload dX12_cellOf_49 rfl ?_
      exact ev_iret dX12_cellOf_51 rfl rfl (by rw [show j = p by omega]) rfl
    | succ n9 ih =>
      intro j  hi9 
      refine ev_iload dX12_cellOf_19 rfl ?_
      refine ev_iload_n dX12_cellOf_21 rfl ?_
      refine ev_icmp_ge_f (tgt := 49) dX12_cellOf_22 (by decide) (nI_ge (by omega) (by omega)) ?_
      refine ev_iload dX12_cellOf_25 rfl ?_
      refine ev_aload_n dX12_cellOf_27 rfl ?_
      refine ev_getR fX12_9 dX12_cellOf_28 (by decide) sh115 rfl ?_
      refine ev_iload_n dX12_cellOf_31 rfl ?_
      refine ev_iconst dX12_cellOf_32 ic3 ?_
      refine ev_iadd dX12_cellOf_33 ?_
      first | refine ev_top (nI_add _ _) ?_ | skip
      refine ev_iload dX12_cellOf_34 rfl ?_
      refine ev_iadd dX12_cellOf_36 ?_
      first | refine ev_top (nI_add _ _) ?_ | skip
      refine ev_iaload dX12_cellOf_37 rfl (by omega) (by decide) sh116 ?_
      refine ev_top ((qv i hi).2.2.2 j (by omega)) ?_
      obtain ⟨hd4, hnb⟩ := stF_ok hS0.2 hi (show j < rN S i by omega)
      refine ev_callS kX12_103 (qX12_beside (hkp j (by omega)) hd4) dX12_cellOf_38 rfl (by decide) (by decide) rfl ?_
      refine ev_top (y := nI (rP S i (j + 1))) (by rw [hnb]; rfl) ?_
      refine ev_ist4 dX12_cellOf_41 (by decide) rfl ?_
      refine ev_iinc5 dX12_cellOf_43 (nI_inc _) (by decide) rfl ?_
      refine ev_goto (tgt := 19) dX12_cellOf_46 (by decide) ?_
      exact ih (j + 1) (by omega)
  exact lp p 0 (Nat.zero_add _)
set_option maxRecDepth 4000 in
theorem qX12_crossings {G : GX} {w : WS} {S : ST} (hS : mR S w) {i : Nat} (hi : i < nR S) : Big G 4 0 mX12_crossings [.ref 115, .int (nI i)] w (.inl (some (.int (nI (ct (xs S i) (rN S i)))))) w := by
  refine big_of (by decide +kernel) (Nat.le_of_ble_eq_true rfl) ?_
  have hS0 := hS
  obtain ⟨⟨q0, q1, ⟨m0, m1, m2, m3, m4⟩, qr, qc, qv, qd⟩, hk1, hk2, hk3, hk4⟩ := hS
  have h4 := hk2.1
  have h5 := hk3.1
  obtain ⟨-, hr1, hr12, hkp, -⟩ := hk2.2 i hi
  show Ev G 4 0 mX12_crossings 0 [some (.ref 115), some (.int (nI i)), none, none] [] w _
  refine ev_iconst dX12_crossings_0 ic0 ?_
  refine ev_ist2 dX12_crossings_1 (by decide) rfl ?_
  refine ev_iconst dX12_crossings_2 ic1 ?_
  refine ev_ist3 dX12_crossings_3 (by decide) rfl ?_
  have lp : ∀ (n9 j : Nat) , j + n9 = rN S i → Ev G 4 0 mX12_crossings 4 [some (.ref 115), some (.int (nI i)), some (.int (nI (ct (xs S i) j))), some (.int (nI (j + 1)))] [] w (zu_ G (.inl (some (.int (nI (ct (xs S i) (rN S i)))))) w) := by
    intro n9
    induction n9 with
    | zero =>
      intro j  hi9 
      refine ev_iload_n dX12_crossings_4 rfl ?_
      refine ev_aload_n dX12_crossings_5 rfl ?_
      refine ev_iload_n dX12_crossings_6 rfl ?_
      refine ev_callV kX12_156 co115 (qX12_steps hS0 hi) dX12_crossings_7 rfl (by decide) (by decide) rfl ?_
      refine ev_icmp_gt_t (tgt := 52) dX12_crossings_10 (by decide) ((pk_lt' (by omega) (by omega)).mpr (by omega)) ?_
      refine ev_iload_n dX12_crossings_52 rfl ?_
      exact ev_iret dX12_crossings_53 rfl rfl (by rw [show j = rN S i by omega]) rfl
    | succ n9 ih =>
      intro j  hi9 
      refine ev_iload_n dX12_crossings_4 rfl ?_
      refine ev_aload_n dX12_crossings_5 rfl ?_
      refine ev_iload_n dX12_crossings_6 rfl ?_
      refine ev_callV kX12_156 co115 (qX12_steps hS0 hi) dX12_crossings_7 rfl (by decide) (by decide) rfl ?_
      refine ev_icmp_gt_f (tgt := 52) dX12_crossings_10 (by decide) (nI_gtf (by omega) (by omega)) ?_
      refine ev_iload_n dX12_crossings_13 rfl ?_
      refine ev_aload_n dX12_crossings_14 rfl ?_
      refine ev_aload_n dX12_crossings_15 rfl ?_
      refine ev_iload_n dX12_crossings_16 rfl ?_
      refine ev_iload_n dX12_crossings_17 rfl ?_
      refine ev_callV kX12_159 co115 (qX12_cellOf hS0 hi (by omega)) dX12_crossings_18 rfl (by decide) (by decide) rfl ?_
      refine ev_callV kX12_67 co115 (qX12_at hS0 (hkp _ (by omega))) dX12_crossings_21 rfl (by decide) (by decide) rfl ?_
      refine ev_aload_n dX12_crossings_24 rfl ?_
      refine ev_aload_n dX12_crossings_25 rfl ?_
      refine ev_iload_n dX12_crossings_26 rfl ?_
      refine ev_iload_n dX12_crossings_27 rfl ?_
      refine ev_iconst dX12_crossings_28 ic1 ?_
      refine ev_isub dX12_crossings_29 ?_
      refine ev_top (y := nI j) (pk_sub (Nat.succ_le_succ (Nat.zero_le _))) ?_
      refine ev_callV kX12_159 co115 (qX12_cellOf hS0 hi (by omega)) dX12_crossings_30 rfl (by decide) (by decide) rfl ?_
      refine ev_callV kX12_67 co115 (qX12_at hS0 (hkp _ (by omega))) dX12_crossings_33 rfl (by decide) (by decide) rfl ?_
      refine ev_icmp_eq (tgt := 43) dX12_crossings_36 (by decide) (fun hc36 => ?_) (fun hc36 => ?_)
      · refine ev_iconst dX12_crossings_43 ic0 ?_
        refine ev_iadd dX12_crossings_44 ?_
        refine ev_top (y := nI (ct (xs S i) (j + 1))) (by rw [nI_add, ct_f (p := xs S i) (by unfold xs; rw [hc36]; simp)]; rfl) ?_
        refine ev_ist2 dX12_crossings_45 (by decide) rfl ?_
        refine ev_iinc3 dX12_crossings_46 (nI_inc _) (by decide) rfl ?_
        refine ev_goto (tgt := 4) dX12_crossings_49 (by decide) ?_
        exact ih (j + 1) (by omega)
      · refine ev_iconst dX12_crossings_39 ic1 ?_
        refine ev_goto (tgt := 44) dX12_crossings_40 (by decide) ?_
        refine ev_iadd dX12_crossings_44 ?_
        refine ev_top (y := nI (ct (xs S i) (j + 1))) (by rw [nI_add, ct_t (p := xs S i) (by unfold xs; exact bne_iff_ne.mpr (fun q => hc36 q.symm))]) ?_
        refine ev_ist2 dX12_crossings_45 (by decide) rfl ?_
        refine ev_iinc3 dX12_crossings_46 (nI_inc _) (by decide) rfl ?_
        refine ev_goto (tgt := 4) dX12_crossings_49 (by decide) ?_
        exact ih (j + 1) (by omega)
  exact lp (rN S i) 0 (Nat.zero_add _)
set_option maxRecDepth 4000 in
theorem qX12_weighs {G : GX} {w : WS} {S : ST} (hS : mR S w) {i : Nat} (hi : i < nR S) : Big G 5 0 mX12_weighs [.ref 115, .int (nI i)] w (.inl (some (.int (nI (wgt S i))))) w := by
  refine big_of (by decide +kernel) (Nat.le_of_ble_eq_true rfl) ?_
  have hS0 := hS
  obtain ⟨⟨q0, q1, ⟨m0, m1, m2, m3, m4⟩, qr, qc, qv, qd⟩, hk1, hk2, hk3, hk4⟩ := hS
  have h4 := hk2.1
  have h5 := hk3.1
  obtain ⟨-, hr1, hr12, hkp, -⟩ := hk2.2 i hi
  show Ev G 5 0 mX12_weighs 0 [some (.ref 115), some (.int (nI i)), none, none] [] w _
  refine ev_iconst dX12_weighs_0 ic3 ?_
  refine ev_aload_n dX12_weighs_1 rfl ?_
  refine ev_iload_n dX12_weighs_2 rfl ?_
  refine ev_callV kX12_168 co115 (qX12_crossings hS0 hi) dX12_weighs_3 rfl (by decide) (by decide) rfl ?_
  refine ev_imul dX12_weighs_6 ?_
  first | refine ev_top (pk_mul _ _) ?_ | skip
  refine ev_ist2 dX12_weighs_7 (by decide) rfl ?_
  refine ev_iconst dX12_weighs_8 ic0 ?_
  refine ev_ist3 dX12_weighs_9 (by decide) rfl ?_
  have lp : ∀ (n9 j : Nat) , j + n9 = rN S i + 1 → Ev G 5 0 mX12_weighs 10 [some (.ref 115), some (.int (nI i)), some (.int (nI (3 * ct (xs S i) (rN S i) + sm (wf S i) j))), some (.int (nI j))] [] w (zu_ G (.inl (some (.int (nI (wgt S i))))) w) := by
    intro n9
    induction n9 with
    | zero =>
      intro j  hi9 
      refine ev_iload_n dX12_weighs_10 rfl ?_
      refine ev_aload_n dX12_weighs_11 rfl ?_
      refine ev_iload_n dX12_weighs_12 rfl ?_
      refine ev_callV kX12_156 co115 (qX12_steps hS0 hi) dX12_weighs_13 rfl (by decide) (by decide) rfl ?_
      refine ev_icmp_gt_t (tgt := 46) dX12_weighs_16 (by decide) ((pk_lt' (by omega) (by omega)).mpr (by omega)) ?_
      refine ev_iload_n dX12_weighs_46 rfl ?_
      exact ev_iret dX12_weighs_47 rfl rfl (by rw [show j = rN S i + 1 by omega]; unfold wgt; rw [Nat.add_comm]) rfl
    | succ n9 ih =>
      intro j  hi9 
      refine ev_iload_n dX12_weighs_10 rfl ?_
      refine ev_aload_n dX12_weighs_11 rfl ?_
      refine ev_iload_n dX12_weighs_12 rfl ?_
      refine ev_callV kX12_156 co115 (qX12_steps hS0 hi) dX12_weighs_13 rfl (by decide) (by decide) rfl ?_
      refine ev_icmp_gt_f (tgt := 46) dX12_weighs_16 (by decide) (nI_gtf (by omega) (by omega)) ?_
      refine ev_iload_n dX12_weighs_19 rfl ?_
      refine ev_aload_n dX12_weighs_20 rfl ?_
      refine ev_aload_n dX12_weighs_21 rfl ?_
      refine ev_iload_n dX12_weighs_22 rfl ?_
      refine ev_iload_n dX12_weighs_23 rfl ?_
      refine ev_callV kX12_159 co115 (qX12_cellOf hS0 hi (by omega)) dX12_weighs_24 rfl (by decide) (by decide) rfl ?_
      refine ev_callV kX12_67 co115 (qX12_at hS0 (hkp _ (by omega))) dX12_weighs_27 rfl (by decide) (by decide) rfl ?_
      refine ev_if_ge (tgt := 37) dX12_weighs_30 (by decide) (fun hc30 => ?_) (fun hc30 => ?_)
      · refine ev_iconst dX12_weighs_37 ic2 ?_
        refine ev_iadd dX12_weighs_38 ?_
        refine ev_top (y := nI (3 * ct (xs S i) (rN S i) + sm (wf S i) (j + 1))) (by rw [nI_add, sm_s (wf S i) j, show wf S i j = 2 from if_neg (fun q => absurd ((sO_lt hS0.2 (hkp j (by omega))).mpr q) (Int32.not_lt.mpr hc30)), Nat.add_assoc]) ?_
        refine ev_ist2 dX12_weighs_39 (by decide) rfl ?_
        refine ev_iinc3 dX12_weighs_40 (nI_inc _) (by decide) rfl ?_
        refine ev_goto (tgt := 10) dX12_weighs_43 (by decide) ?_
        exact ih (j + 1) (by omega)
      · refine ev_iconst dX12_weighs_33 ic1 ?_
        refine ev_goto (tgt := 38) dX12_weighs_34 (by decide) ?_
        refine ev_iadd dX12_weighs_38 ?_
        refine ev_top (y := nI (3 * ct (xs S i) (rN S i) + sm (wf S i) (j + 1))) (by rw [nI_add, sm_s (wf S i) j, show wf S i j = 1 from if_pos ((sO_lt hS0.2 (hkp j (by omega))).mp (Int32.not_le.mp hc30)), Nat.add_assoc]) ?_
        refine ev_ist2 dX12_weighs_39 (by decide) rfl ?_
        refine ev_iinc3 dX12_weighs_40 (nI_inc _) (by decide) rfl ?_
        refine ev_goto (tgt := 10) dX12_weighs_43 (by decide) ?_
        exact ih (j + 1) (by omega)
  exact lp (rN S i + 1) 0 (Nat.zero_add _)
set_option maxRecDepth 4000 in
theorem qX12_dragonsOf {G : GX} {w : WS} {S : ST} (hS : mR S w) {r : Int32} : Big G 2 0 mX12_dragonsOf [.ref 115, .int r] w (.inl (some (.int (nI (dOf S r))))) w := by
  refine big_of (by decide +kernel) (Nat.le_of_ble_eq_true rfl) ?_
  have hS0 := hS
  obtain ⟨⟨q0, q1, ⟨m0, m1, m2, m3, m4⟩, qr, qc, qv, qd⟩, hk1, hk2, hk3, hk4⟩ := hS
  have h4 := hk2.1
  have h5 := hk3.1
  show Ev G 2 0 mX12_dragonsOf 0 [some (.ref 115), some (.int r), none, none] [] w _
  refine ev_iconst dX12_dragonsOf_0 ic0 ?_
  refine ev_ist2 dX12_dragonsOf_1 (by decide) rfl ?_
  refine ev_iconst dX12_dragonsOf_2 ic0 ?_
  refine ev_ist3 dX12_dragonsOf_3 (by decide) rfl ?_
  have lp : ∀ (n9 j : Nat) , j + n9 = nD S → Ev G 2 0 mX12_dragonsOf 4 [some (.ref 115), some (.int r), some (.int (nI (ct (fun i => sO S (dC S i) == r) j))), some (.int (nI j))] [] w (zu_ G (.inl (some (.int (nI (dOf S r))))) w) := by
    intro n9
    induction n9 with
    | zero =>
      intro j  hi9 
      refine ev_iload_n dX12_dragonsOf_4 rfl ?_
      refine ev_aload_n dX12_dragonsOf_5 rfl ?_
      refine ev_getR fX12_9 dX12_dragonsOf_6 (by decide) sh115 rfl ?_
      refine ev_iconst dX12_dragonsOf_9 ic1 ?_
      refine ev_iaload dX12_dragonsOf_10 rfl (by omega) (by decide) sh116 ?_
      refine ev_top q1 ?_
      refine ev_icmp_ge_t (tgt := 48) dX12_dragonsOf_11 (by decide) (nI_le (by omega) (by omega)) ?_
      refine ev_iload_n dX12_dragonsOf_48 rfl ?_
      exact ev_iret dX12_dragonsOf_49 rfl rfl (by rw [show j = nD S by omega]; rfl) rfl
    | succ n9 ih =>
      intro j  hi9 
      refine ev_iload_n dX12_dragonsOf_4 rfl ?_
      refine ev_aload_n dX12_dragonsOf_5 rfl ?_
      refine ev_getR fX12_9 dX12_dragonsOf_6 (by decide) sh115 rfl ?_
      refine ev_iconst dX12_dragonsOf_9 ic1 ?_
      refine ev_iaload dX12_dragonsOf_10 rfl (by omega) (by decide) sh116 ?_
      refine ev_top q1 ?_
      refine ev_icmp_ge_f (tgt := 48) dX12_dragonsOf_11 (by decide) (nI_ge (by omega) (by omega)) ?_
      refine ev_iload_n dX12_dragonsOf_14 rfl ?_
      refine ev_aload_n dX12_dragonsOf_15 rfl ?_
      refine ev_aload_n dX12_dragonsOf_16 rfl ?_
      refine ev_getR fX12_9 dX12_dragonsOf_17 (by decide) sh115 rfl ?_
      refine ev_sipush (v := nI 143) dX12_dragonsOf_20 (by decide) ?_
      refine ev_iconst dX12_dragonsOf_23 ic3 ?_
      refine ev_iload_n dX12_dragonsOf_24 rfl ?_
      refine ev_imul dX12_dragonsOf_25 ?_
      first | refine ev_top (pk_mul _ _) ?_ | skip
      refine ev_iadd dX12_dragonsOf_26 ?_
      first | refine ev_top (nI_add _ _) ?_ | skip
      refine ev_iaload dX12_dragonsOf_27 rfl (by omega) (by decide) sh116 ?_
      refine ev_top (qd j (by omega)).1 ?_
      refine ev_callV kX12_67 co115 (qX12_at hS0 (hk3.2.1 j (by omega)).1) dX12_dragonsOf_28 rfl (by decide) (by decide) rfl ?_
      refine ev_iload_n dX12_dragonsOf_31 rfl ?_
      refine ev_icmp_ne (tgt := 39) dX12_dragonsOf_32 (by decide) (fun hc32 => ?_) (fun hc32 => ?_)
      · refine ev_iconst dX12_dragonsOf_39 ic0 ?_
        refine ev_iadd dX12_dragonsOf_40 ?_
        refine ev_top (y := nI (ct (fun i => sO S (dC S i) == r) (j + 1))) (by rw [nI_add, ct_f (p := (fun i => sO S (dC S i) == r)) (beq_eq_false_iff_ne.mpr hc32)]; rfl) ?_
        refine ev_ist2 dX12_dragonsOf_41 (by decide) rfl ?_
        refine ev_iinc3 dX12_dragonsOf_42 (nI_inc _) (by decide) rfl ?_
        refine ev_goto (tgt := 4) dX12_dragonsOf_45 (by decide) ?_
        exact ih (j + 1) (by omega)
      · refine ev_iconst dX12_dragonsOf_35 ic1 ?_
        refine ev_goto (tgt := 40) dX12_dragonsOf_36 (by decide) ?_
        refine ev_iadd dX12_dragonsOf_40 ?_
        refine ev_top (y := nI (ct (fun i => sO S (dC S i) == r) (j + 1))) (by rw [nI_add, ct_t (p := (fun i => sO S (dC S i) == r)) (beq_iff_eq.mpr hc32)]) ?_
        refine ev_ist2 dX12_dragonsOf_41 (by decide) rfl ?_
        refine ev_iinc3 dX12_dragonsOf_42 (nI_inc _) (by decide) rfl ?_
        refine ev_goto (tgt := 4) dX12_dragonsOf_45 (by decide) ?_
        exact ih (j + 1) (by omega)
  exact lp (nD S) 0 (Nat.zero_add _)
set_option maxRecDepth 4000 in
theorem qX12_wrongBy {G : GX} {w : WS} {S : ST} (hS : mR S w) {m : Nat} (hm9 : m ≤ 9) : Big G 2 0 mX12_wrongBy [.ref 115, .int (nI m)] w (.inl (some (.int (nI (awr S m))))) w := by
  refine big_of (by decide +kernel) (Nat.le_of_ble_eq_true rfl) ?_
  have hS0 := hS
  obtain ⟨⟨q0, q1, ⟨m0, m1, m2, m3, m4⟩, qr, qc, qv, qd⟩, hk1, hk2, hk3, hk4⟩ := hS
  have h4 := hk2.1
  have h5 := hk3.1
  show Ev G 2 0 mX12_wrongBy 0 [some (.ref 115), some (.int (nI m)), none, none] [] w _
  refine ev_iconst dX12_wrongBy_0 ic0 ?_
  refine ev_ist2 dX12_wrongBy_1 (by decide) rfl ?_
  refine ev_iconst dX12_wrongBy_2 ic0 ?_
  refine ev_ist3 dX12_wrongBy_3 (by decide) rfl ?_
  have lp : ∀ (n9 j : Nat) , j + n9 = nR S → Ev G 2 0 mX12_wrongBy 4 [some (.ref 115), some (.int (nI m)), some (.int (nI (sm (wr S m) j))), some (.int (nI j))] [] w (zu_ G (.inl (some (.int (nI (awr S m))))) w) := by
    intro n9
    induction n9 with
    | zero =>
      intro j  hi9 
      refine ev_iload_n dX12_wrongBy_4 rfl ?_
      refine ev_aload_n dX12_wrongBy_5 rfl ?_
      refine ev_getR fX12_9 dX12_wrongBy_6 (by decide) sh115 rfl ?_
      refine ev_iconst dX12_wrongBy_9 ic0 ?_
      refine ev_iaload dX12_wrongBy_10 rfl (by omega) (by decide) sh116 ?_
      refine ev_top q0 ?_
      refine ev_icmp_ge_t (tgt := 48) dX12_wrongBy_11 (by decide) (nI_le (by omega) (by omega)) ?_
      refine ev_iload_n dX12_wrongBy_48 rfl ?_
      exact ev_iret dX12_wrongBy_49 rfl rfl (by rw [show j = nR S by omega]; rfl) rfl
    | succ n9 ih =>
      intro j  hi9 
      refine ev_iload_n dX12_wrongBy_4 rfl ?_
      refine ev_aload_n dX12_wrongBy_5 rfl ?_
      refine ev_getR fX12_9 dX12_wrongBy_6 (by decide) sh115 rfl ?_
      refine ev_iconst dX12_wrongBy_9 ic0 ?_
      refine ev_iaload dX12_wrongBy_10 rfl (by omega) (by decide) sh116 ?_
      refine ev_top q0 ?_
      refine ev_icmp_ge_f (tgt := 48) dX12_wrongBy_11 (by decide) (nI_ge (by omega) (by omega)) ?_
      refine ev_iload_n dX12_wrongBy_14 rfl ?_
      refine ev_aload_n dX12_wrongBy_15 rfl ?_
      refine ev_getR fX12_9 dX12_wrongBy_16 (by decide) sh115 rfl ?_
      refine ev_bipush (v := nI 83) dX12_wrongBy_19 (by decide) ?_
      refine ev_bipush (v := nI 15) dX12_wrongBy_21 (by decide) ?_
      refine ev_iload_n dX12_wrongBy_23 rfl ?_
      refine ev_imul dX12_wrongBy_24 ?_
      first | refine ev_top (pk_mul _ _) ?_ | skip
      refine ev_iadd dX12_wrongBy_25 ?_
      first | refine ev_top (nI_add _ _) ?_ | skip
      refine ev_iconst dX12_wrongBy_26 ic1 ?_
      refine ev_iadd dX12_wrongBy_27 ?_
      first | refine ev_top (nI_add _ _) ?_ | skip
      refine ev_iaload dX12_wrongBy_28 rfl (by omega) (by decide) sh116 ?_
      refine ev_top (qv j (by omega)).2.1 ?_
      refine ev_iload_n dX12_wrongBy_29 rfl ?_
      refine ev_aload_n dX12_wrongBy_30 rfl ?_
      refine ev_iload_n dX12_wrongBy_31 rfl ?_
      refine ev_callV kX12_156 co115 (qX12_steps hS0 (by omega)) dX12_wrongBy_32 rfl (by decide) (by decide) rfl ?_
      refine ev_imul dX12_wrongBy_35 ?_
      refine ev_top (pk_mul _ _) ?_
      refine ev_isub dX12_wrongBy_36 ?_
      refine ev_top rfl ?_
      refine ev_abs aX12_199 dX12_wrongBy_37 rfl ?_
      rw [abs_nI (by have := (hk2.2 j (by omega)).1; omega) (by have := (hk2.2 j (by omega)).2.2.1; have := Nat.mul_le_mul hm9 this; omega), show (rT S j - m * rN S j) + (m * rN S j - rT S j) = wr S m j by unfold wr; rw [Nat.mul_comm m]]
      refine ev_iadd dX12_wrongBy_40 ?_
      refine ev_top (y := nI (sm (wr S m) (j + 1))) (nI_add _ _) ?_
      refine ev_ist2 dX12_wrongBy_41 (by decide) rfl ?_
      refine ev_iinc3 dX12_wrongBy_42 (nI_inc _) (by decide) rfl ?_
      refine ev_goto (tgt := 4) dX12_wrongBy_45 (by decide) ?_
      exact ih (j + 1) (by omega)
  exact lp (nR S) 0 (Nat.zero_add _)
