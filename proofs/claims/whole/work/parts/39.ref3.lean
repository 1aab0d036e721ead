/-! the reference: folds, orders -/
def ups (b : Bool) (c k : Nat) : Nat := if b then 8 * (2 * c - 1 - k / 8) + k % 8 else 8 * (k / 8) + (2 * c - 1 - k % 8)
def lin (b : Bool) (k : Nat) : Nat := if b then k / 8 else k % 8
def lmH (b : Bool) (c k : Nat) : Bool := decide (lin b k < c ∧ 2 * c - 1 - lin b k < 8)
def lmF (S : ST) (b : Bool) (c k : Nat) : Bool := lmH b c k && (sO S k != sO S (ups b c k))
def lm (S : ST) (b : Bool) (c : Nat) : Nat := ct (lmF S b c) 64
theorem ct_fl {h q : Nat → Bool} {n : Nat} : ct (fun i => h i && q i) n = (((List.range n).filter h).map (fun i => if q i = true then 1 else 0)).sum := by
  induction n with
  | zero => rfl
  | succ n ih =>
    rw [ct_s, ih, List.range_succ, List.filter_append, List.map_append, List.sum_append]
    congr 1
    cases e : h n <;> simp [e]
theorem ct_mp {q : Nat → Bool} {n : Nat} : ct q n = ((List.range n).map (fun i => if q i = true then 1 else 0)).sum := by
  induction n with
  | zero => rfl
  | succ n ih =>
    rw [ct_s, ih, List.range_succ, List.map_append, List.sum_append]
    simp
theorem sm_fm {f : Nat → Nat → Bool} {n k : Nat} : sm (fun i => ct (f i) k) n = ((List.range n).flatMap (fun i => (List.range k).map (fun y => if f i y = true then 1 else 0))).sum := by
  induction n with
  | zero => rfl
  | succ n ih =>
    rw [sm_s, ih, List.range_succ, List.flatMap_append, List.sum_append, ct_mp]
    simp
def pl1 (b : Bool) (c : Nat) : List (Nat × Nat) := ((List.range 64).filter (lmH b c)).map (fun i => (i, ups b c i))
def pl2 (b : Bool) (c : Nat) : List (Nat × Nat) := (List.range (dp_ c)).flatMap (fun k => (List.range 8).map (fun y => (ix_ b (c - 1 - k) y, ix_ b (c + k) y)))
theorem pl_eq : ∀ b : Bool, ∀ c : Fin 8, c.val = 0 ∨ (pl1 b c.val).isPerm (pl2 b c.val) = true := by decide +kernel
theorem lm_eq {S : ST} {b : Bool} {c : Nat} (h1 : 1 ≤ c) (h7 : c ≤ 7) : lm S b c = lys S b c := by
  have hp : (pl1 b c).Perm (pl2 b c) := List.isPerm_iff.mp ((pl_eq b ⟨c, by omega⟩).resolve_left (by show ¬ c = 0; omega))
  have e1 : lm S b c = ((pl1 b c).map (fun z => if (sO S z.1 != sO S z.2) = true then 1 else 0)).sum := by
    unfold lm lmF pl1
    rw [ct_fl, List.map_map]
    rfl
  have e2 : lys S b c = ((pl2 b c).map (fun z => if (sO S z.1 != sO S z.2) = true then 1 else 0)).sum := by
    unfold lys lyk lyf pl2
    rw [sm_fm, List.map_flatMap]
    congr 2
  rw [e1, e2]
  exact List.Perm.sum_nat (hp.map _)
set_option maxRecDepth 4000 in
theorem qX12_lieMany_true {G : GX} {w : WS} {S : ST} (hS : mR S w) {c : Nat} (h1 : 1 ≤ c) (h7 : c ≤ 7) : Big G 2 0 mX12_lieMany [.ref 115, .int (bI true), .int (nI c)] w (.inl (some (.int (nI (lys S true c))))) w := by
  refine big_of (by decide +kernel) (Nat.le_of_ble_eq_true rfl) ?_
  have hS0 := hS
  obtain ⟨⟨q0, q1, ⟨m0, m1, m2, m3, m4⟩, qr, qc, qv, qd⟩, hk1, hk2, hk3, hk4⟩ := hS
  have h4 := hk2.1
  have h5 := hk3.1
  show Ev G 2 0 mX12_lieMany 0 [some (.ref 115), some (.int (bI true)), some (.int (nI c)), none, none, none, none, none] [] w _
  refine ev_iconst dX12_lieMany_0 ic0 ?_
  refine ev_ist3 dX12_lieMany_1 (by decide) rfl ?_
  refine ev_iconst dX12_lieMany_2 ic0 ?_
  refine ev_ist4 dX12_lieMany_3 (by decide) rfl ?_
  have lp : ∀ (n9 k : Nat) , k + n9 = 64 → Ev G 2 0 mX12_lieMany 5 [some (.ref 115), some (.int (bI true)), some (.int (nI c)), some (.int (nI (ct (lmF S true c) k))), some (.int (nI k)), none, none, none] [] w (zu_ G (.inl (some (.int (nI (lys S true c))))) w) := by
    intro n9
    induction n9 with
    | zero =>
      intro k  hi9 
      refine ev_iload dX12_lieMany_5 rfl ?_
      refine ev_bipush (v := nI 64) dX12_lieMany_7 (by decide) ?_
      refine ev_icmp_ge_t (tgt := 114) dX12_lieMany_9 (by decide) (nI_le (by omega) (by omega)) ?_
      refine ev_iload_n dX12_lieMany_114 rfl ?_
      exact ev_iret dX12_lieMany_115 rfl rfl (by rw [← lm_eq h1 h7, show k = 64 by omega]; rfl) rfl
    | succ n9 ih =>
      intro k  hi9 
      refine ev_iload dX12_lieMany_5 rfl ?_
      refine ev_bipush (v := nI 64) dX12_lieMany_7 (by decide) ?_
      refine ev_icmp_ge_f (tgt := 114) dX12_lieMany_9 (by decide) (nI_ge (by omega) (by decide)) ?_
      refine ev_iload_n dX12_lieMany_12 rfl ?_
      refine ev_if_eq_f (tgt := 24) dX12_lieMany_13 (by decide) (by decide) ?_
      refine ev_iload dX12_lieMany_16 rfl ?_
      refine ev_bipush (v := nI 8) dX12_lieMany_18 (by decide) ?_
      refine ev_idiv dX12_lieMany_20 (by decide) ?_
      refine ev_top (pk_div (by omega) (by decide) (by decide)) ?_
      refine ev_goto (tgt := 29) dX12_lieMany_21 (by decide) ?_
      refine ev_ist5 dX12_lieMany_29 (by decide) rfl ?_
      refine ev_iconst dX12_lieMany_31 ic2 ?_
      refine ev_iload_n dX12_lieMany_32 rfl ?_
      refine ev_imul dX12_lieMany_33 ?_
      first | refine ev_top (pk_mul _ _) ?_ | skip
      refine ev_iconst dX12_lieMany_34 ic1 ?_
      refine ev_isub dX12_lieMany_35 ?_
      refine ev_top (y := nI (2 * c - 1)) (pk_sub (by omega)) ?_
      refine ev_iload dX12_lieMany_36 rfl ?_
      refine ev_isub dX12_lieMany_38 ?_
      refine ev_top rfl ?_
      refine ev_ist6 dX12_lieMany_39 (by decide) rfl ?_
      refine ev_iload_n dX12_lieMany_41 rfl ?_
      refine ev_if_eq_f (tgt := 59) dX12_lieMany_42 (by decide) (by decide) ?_
      refine ev_bipush (v := nI 8) dX12_lieMany_45 (by decide) ?_
      refine ev_iload dX12_lieMany_47 rfl ?_
      refine ev_imul dX12_lieMany_49 ?_
      refine ev_top rfl ?_
      refine ev_iload dX12_lieMany_50 rfl ?_
      refine ev_bipush (v := nI 8) dX12_lieMany_52 (by decide) ?_
      refine ev_irem dX12_lieMany_54 (by decide) ?_
      refine ev_top (pk_rem (by omega) (by decide) (by decide)) ?_
      refine ev_iadd dX12_lieMany_55 ?_
      refine ev_top rfl ?_
      refine ev_goto (tgt := 70) dX12_lieMany_56 (by decide) ?_
      refine ev_ist7 dX12_lieMany_70 (by decide) rfl ?_
      refine ev_iload_n dX12_lieMany_72 rfl ?_
      refine ev_iload dX12_lieMany_73 rfl ?_
      refine ev_iload_n dX12_lieMany_75 rfl ?_
      refine ev_icmp_ge (tgt := 105) dX12_lieMany_76 (by decide) (fun hc76 => ?_) (fun hc76 => ?_)
      · have e76 : ¬ k / 8 < c := fun q => nI_ge q (by omega) hc76
        have eh : (lmF S true c k) = false := by
          show (decide (k / 8 < c ∧ 2 * c - 1 - k / 8 < 8) && _) = false
          rw [decide_eq_false (fun q => e76 q.1), Bool.false_and]
        refine ev_iconst dX12_lieMany_105 ic0 ?_
        refine ev_iadd dX12_lieMany_106 ?_
        refine ev_top (y := nI (ct (lmF S true c) (k + 1))) (by rw [nI_add, ct_f (p := (lmF S true c)) eh]; first | done | rfl) ?_
        refine ev_ist3 dX12_lieMany_107 (by decide) rfl ?_
        refine ev_iinc4 dX12_lieMany_108 (nI_inc _) (by decide) rfl ?_
        refine ev_goto (tgt := 5) dX12_lieMany_111 (by decide) ?_
        refine ev_fg5 ?_
        refine ev_fg6 ?_
        refine ev_fg7 ?_
        exact ih (k + 1) (by omega)
      · have e76 : k / 8 < c := Nat.lt_of_not_le (fun q => hc76 (nI_le q (by omega)))
        refine ev_iload dX12_lieMany_79 rfl ?_
        refine ev_top (y := nI (2 * c - 1 - k / 8)) (pk_sub (by omega)) ?_
        refine ev_bipush (v := nI 8) dX12_lieMany_81 (by decide) ?_
        refine ev_icmp_ge (tgt := 105) dX12_lieMany_83 (by decide) (fun hc83 => ?_) (fun hc83 => ?_)
        · have e83 : ¬ 2 * c - 1 - k / 8 < 8 := fun q => nI_ge q (by decide) hc83
          have eh : (lmF S true c k) = false := by
            show (decide (k / 8 < c ∧ 2 * c - 1 - k / 8 < 8) && _) = false
            rw [decide_eq_false (fun q => e83 q.2), Bool.false_and]
          refine ev_iconst dX12_lieMany_105 ic0 ?_
          refine ev_iadd dX12_lieMany_106 ?_
          refine ev_top (y := nI (ct (lmF S true c) (k + 1))) (by rw [nI_add, ct_f (p := (lmF S true c)) eh]; first | done | rfl) ?_
          refine ev_ist3 dX12_lieMany_107 (by decide) rfl ?_
          refine ev_iinc4 dX12_lieMany_108 (nI_inc _) (by decide) rfl ?_
          refine ev_goto (tgt := 5) dX12_lieMany_111 (by decide) ?_
          refine ev_fg5 ?_
          refine ev_fg6 ?_
          refine ev_fg7 ?_
          exact ih (k + 1) (by omega)
        · have e83 : 2 * c - 1 - k / 8 < 8 := Nat.lt_of_not_le (fun q => hc83 (nI_le q (by omega)))
          have hup : 8 * (2 * c - 1 - k / 8) + k % 8 < 64 := by omega
          refine ev_aload_n dX12_lieMany_86 rfl ?_
          refine ev_iload dX12_lieMany_87 rfl ?_
          refine ev_callV kX12_67 co115 (qX12_at hS0 (by omega)) dX12_lieMany_89 rfl (by decide) (by decide) rfl ?_
          refine ev_aload_n dX12_lieMany_92 rfl ?_
          refine ev_iload dX12_lieMany_93 rfl ?_
          refine ev_top (y := nI (8 * (2 * c - 1 - k / 8) + k % 8)) (by rw [pk_sub (show k / 8 ≤ 2 * c - 1 by omega)]; first | (rw [pk_mul, nI_add]; done) | (rw [nI_add]; done)) ?_
          refine ev_callV kX12_67 co115 (qX12_at hS0 hup) dX12_lieMany_95 rfl (by decide) (by decide) rfl ?_
          refine ev_icmp_eq (tgt := 105) dX12_lieMany_98 (by decide) (fun hc98 => ?_) (fun hc98 => ?_)
          · have eh : (lmF S true c k) = false := by
              show (decide (k / 8 < c ∧ 2 * c - 1 - k / 8 < 8) && (sO S k != sO S (8 * (2 * c - 1 - k / 8) + k % 8))) = false
              rw [hc98]; simp
            refine ev_iconst dX12_lieMany_105 ic0 ?_
            refine ev_iadd dX12_lieMany_106 ?_
            refine ev_top (y := nI (ct (lmF S true c) (k + 1))) (by rw [nI_add, ct_f (p := (lmF S true c)) eh]; first | done | rfl) ?_
            refine ev_ist3 dX12_lieMany_107 (by decide) rfl ?_
            refine ev_iinc4 dX12_lieMany_108 (nI_inc _) (by decide) rfl ?_
            refine ev_goto (tgt := 5) dX12_lieMany_111 (by decide) ?_
            refine ev_fg5 ?_
            refine ev_fg6 ?_
            refine ev_fg7 ?_
            exact ih (k + 1) (by omega)
          · have eh : (lmF S true c k) = true := by
              show (decide (k / 8 < c ∧ 2 * c - 1 - k / 8 < 8) && (sO S k != sO S (8 * (2 * c - 1 - k / 8) + k % 8))) = true
              rw [decide_eq_true ⟨e76, e83⟩, Bool.true_and]; exact bne_iff_ne.mpr hc98
            refine ev_iconst dX12_lieMany_101 ic1 ?_
            refine ev_goto (tgt := 106) dX12_lieMany_102 (by decide) ?_
            refine ev_iadd dX12_lieMany_106 ?_
            refine ev_top (y := nI (ct (lmF S true c) (k + 1))) (by rw [nI_add, ct_t (p := (lmF S true c)) eh]; first | done | rfl) ?_
            refine ev_ist3 dX12_lieMany_107 (by decide) rfl ?_
            refine ev_iinc4 dX12_lieMany_108 (nI_inc _) (by decide) rfl ?_
            refine ev_goto (tgt := 5) dX12_lieMany_111 (by decide) ?_
            refine ev_fg5 ?_
            refine ev_fg6 ?_
            refine ev_fg7 ?_
            exact ih (k + 1) (by omega)
  exact lp 64 0 rfl
set_option maxRecDepth 4000 in
theorem qX12_lieMany_false {G : GX} {w : WS} {S : ST} (hS : mR S w) {c : Nat} (h1 : 1 ≤ c) (h7 : c ≤ 7) : Big G 2 0 mX12_lieMany [.ref 115, .int (bI false), .int (nI c)] w (.inl (some (.int (nI (lys S false c))))) w := by
  refine big_of (by decide +kernel) (Nat.le_of_ble_eq_true rfl) ?_
  have hS0 := hS
  obtain ⟨⟨q0, q1, ⟨m0, m1, m2, m3, m4⟩, qr, qc, qv, qd⟩, hk1, hk2, hk3, hk4⟩ := hS
  have h4 := hk2.1
  have h5 := hk3.1
  show Ev G 2 0 mX12_lieMany 0 [some (.ref 115), some (.int (bI false)), some (.int (nI c)), none, none, none, none, none] [] w _
  refine ev_iconst dX12_lieMany_0 ic0 ?_
  refine ev_ist3 dX12_lieMany_1 (by decide) rfl ?_
  refine ev_iconst dX12_lieMany_2 ic0 ?_
  refine ev_ist4 dX12_lieMany_3 (by decide) rfl ?_
  have lp : ∀ (n9 k : Nat) , k + n9 = 64 → Ev G 2 0 mX12_lieMany 5 [some (.ref 115), some (.int (bI false)), some (.int (nI c)), some (.int (nI (ct (lmF S false c) k))), some (.int (nI k)), none, none, none] [] w (zu_ G (.inl (some (.int (nI (lys S false c))))) w) := by
    intro n9
    induction n9 with
    | zero =>
      intro k  hi9 
      refine ev_iload dX12_lieMany_5 rfl ?_
      refine ev_bipush (v := nI 64) dX12_lieMany_7 (by decide) ?_
      refine ev_icmp_ge_t (tgt := 114) dX12_lieMany_9 (by decide) (nI_le (by omega) (by omega)) ?_
      refine ev_iload_n dX12_lieMany_114 rfl ?_
      exact ev_iret dX12_lieMany_115 rfl rfl (by rw [← lm_eq h1 h7, show k = 64 by omega]; rfl) rfl
    | succ n9 ih =>
      intro k  hi9 
      refine ev_iload dX12_lieMany_5 rfl ?_
      refine ev_bipush (v := nI 64) dX12_lieMany_7 (by decide) ?_
      refine ev_icmp_ge_f (tgt := 114) dX12_lieMany_9 (by decide) (nI_ge (by omega) (by decide)) ?_
      refine ev_iload_n dX12_lieMany_12 rfl ?_
      refine ev_if_eq_t (tgt := 24) dX12_lieMany_13 (by decide) rfl ?_
      refine ev_iload dX12_lieMany_24 rfl ?_
      refine ev_bipush (v := nI 8) dX12_lieMany_26 (by decide) ?_
      refine ev_irem dX12_lieMany_28 (by decide) ?_
      refine ev_top (pk_rem (by omega) (by decide) (by decide)) ?_
      refine ev_ist5 dX12_lieMany_29 (by decide) rfl ?_
      refine ev_iconst dX12_lieMany_31 ic2 ?_
      refine ev_iload_n dX12_lieMany_32 rfl ?_
      refine ev_imul dX12_lieMany_33 ?_
      first | refine ev_top (pk_mul _ _) ?_ | skip
      refine ev_iconst dX12_lieMany_34 ic1 ?_
      refine ev_isub dX12_lieMany_35 ?_
      refine ev_top (y := nI (2 * c - 1)) (pk_sub (by omega)) ?_
      refine ev_iload dX12_lieMany_36 rfl ?_
      refine ev_isub dX12_lieMany_38 ?_
      refine ev_top rfl ?_
      refine ev_ist6 dX12_lieMany_39 (by decide) rfl ?_
      refine ev_iload_n dX12_lieMany_41 rfl ?_
      refine ev_if_eq_t (tgt := 59) dX12_lieMany_42 (by decide) rfl ?_
      refine ev_bipush (v := nI 8) dX12_lieMany_59 (by decide) ?_
      refine ev_iload dX12_lieMany_61 rfl ?_
      refine ev_bipush (v := nI 8) dX12_lieMany_63 (by decide) ?_
      refine ev_idiv dX12_lieMany_65 (by decide) ?_
      refine ev_top (pk_div (by omega) (by decide) (by decide)) ?_
      refine ev_imul dX12_lieMany_66 ?_
      refine ev_top (pk_mul _ _) ?_
      refine ev_iload dX12_lieMany_67 rfl ?_
      refine ev_iadd dX12_lieMany_69 ?_
      refine ev_top rfl ?_
      refine ev_ist7 dX12_lieMany_70 (by decide) rfl ?_
      refine ev_iload_n dX12_lieMany_72 rfl ?_
      refine ev_iload dX12_lieMany_73 rfl ?_
      refine ev_iload_n dX12_lieMany_75 rfl ?_
      refine ev_icmp_ge (tgt := 105) dX12_lieMany_76 (by decide) (fun hc76 => ?_) (fun hc76 => ?_)
      · have e76 : ¬ k % 8 < c := fun q => nI_ge q (by omega) hc76
        have eh : (lmF S false c k) = false := by
          show (decide (k % 8 < c ∧ 2 * c - 1 - k % 8 < 8) && _) = false
          rw [decide_eq_false (fun q => e76 q.1), Bool.false_and]
        refine ev_iconst dX12_lieMany_105 ic0 ?_
        refine ev_iadd dX12_lieMany_106 ?_
        refine ev_top (y := nI (ct (lmF S false c) (k + 1))) (by rw [nI_add, ct_f (p := (lmF S false c)) eh]; first | done | rfl) ?_
        refine ev_ist3 dX12_lieMany_107 (by decide) rfl ?_
        refine ev_iinc4 dX12_lieMany_108 (nI_inc _) (by decide) rfl ?_
        refine ev_goto (tgt := 5) dX12_lieMany_111 (by decide) ?_
        refine ev_fg5 ?_
        refine ev_fg6 ?_
        refine ev_fg7 ?_
        exact ih (k + 1) (by omega)
      · have e76 : k % 8 < c := Nat.lt_of_not_le (fun q => hc76 (nI_le q (by omega)))
        refine ev_iload dX12_lieMany_79 rfl ?_
        refine ev_top (y := nI (2 * c - 1 - k % 8)) (pk_sub (by omega)) ?_
        refine ev_bipush (v := nI 8) dX12_lieMany_81 (by decide) ?_
        refine ev_icmp_ge (tgt := 105) dX12_lieMany_83 (by decide) (fun hc83 => ?_) (fun hc83 => ?_)
        · have e83 : ¬ 2 * c - 1 - k % 8 < 8 := fun q => nI_ge q (by decide) hc83
          have eh : (lmF S false c k) = false := by
            show (decide (k % 8 < c ∧ 2 * c - 1 - k % 8 < 8) && _) = false
            rw [decide_eq_false (fun q => e83 q.2), Bool.false_and]
          refine ev_iconst dX12_lieMany_105 ic0 ?_
          refine ev_iadd dX12_lieMany_106 ?_
          refine ev_top (y := nI (ct (lmF S false c) (k + 1))) (by rw [nI_add, ct_f (p := (lmF S false c)) eh]; first | done | rfl) ?_
          refine ev_ist3 dX12_lieMany_107 (by decide) rfl ?_
          refine ev_iinc4 dX12_lieMany_108 (nI_inc _) (by decide) rfl ?_
          refine ev_goto (tgt := 5) dX12_lieMany_111 (by decide) ?_
          refine ev_fg5 ?_
          refine ev_fg6 ?_
          refine ev_fg7 ?_
          exact ih (k + 1) (by omega)
        · have e83 : 2 * c - 1 - k % 8 < 8 := Nat.lt_of_not_le (fun q => hc83 (nI_le q (by omega)))
          have hup : 8 * (k / 8) + (2 * c - 1 - k % 8) < 64 := by omega
          refine ev_aload_n dX12_lieMany_86 rfl ?_
          refine ev_iload dX12_lieMany_87 rfl ?_
          refine ev_callV kX12_67 co115 (qX12_at hS0 (by omega)) dX12_lieMany_89 rfl (by decide) (by decide) rfl ?_
          refine ev_aload_n dX12_lieMany_92 rfl ?_
          refine ev_iload dX12_lieMany_93 rfl ?_
          refine ev_top (y := nI (8 * (k / 8) + (2 * c - 1 - k % 8))) (by rw [pk_sub (show k % 8 ≤ 2 * c - 1 by omega)]; first | (rw [pk_mul, nI_add]; done) | (rw [nI_add]; done)) ?_
          refine ev_callV kX12_67 co115 (qX12_at hS0 hup) dX12_lieMany_95 rfl (by decide) (by decide) rfl ?_
          refine ev_icmp_eq (tgt := 105) dX12_lieMany_98 (by decide) (fun hc98 => ?_) (fun hc98 => ?_)
          · have eh : (lmF S false c k) = false := by
              show (decide (k % 8 < c ∧ 2 * c - 1 - k % 8 < 8) && (sO S k != sO S (8 * (k / 8) + (2 * c - 1 - k % 8)))) = false
              rw [hc98]; simp
            refine ev_iconst dX12_lieMany_105 ic0 ?_
            refine ev_iadd dX12_lieMany_106 ?_
            refine ev_top (y := nI (ct (lmF S false c) (k + 1))) (by rw [nI_add, ct_f (p := (lmF S false c)) eh]; first | done | rfl) ?_
            refine ev_ist3 dX12_lieMany_107 (by decide) rfl ?_
            refine ev_iinc4 dX12_lieMany_108 (nI_inc _) (by decide) rfl ?_
            refine ev_goto (tgt := 5) dX12_lieMany_111 (by decide) ?_
            refine ev_fg5 ?_
            refine ev_fg6 ?_
            refine ev_fg7 ?_
            exact ih (k + 1) (by omega)
          · have eh : (lmF S false c k) = true := by
              show (decide (k % 8 < c ∧ 2 * c - 1 - k % 8 < 8) && (sO S k != sO S (8 * (k / 8) + (2 * c - 1 - k % 8)))) = true
              rw [decide_eq_true ⟨e76, e83⟩, Bool.true_and]; exact bne_iff_ne.mpr hc98
            refine ev_iconst dX12_lieMany_101 ic1 ?_
            refine ev_goto (tgt := 106) dX12_lieMany_102 (by decide) ?_
            refine ev_iadd dX12_lieMany_106 ?_
            refine ev_top (y := nI (ct (lmF S false c) (k + 1))) (by rw [nI_add, ct_t (p := (lmF S false c)) eh]; first | done | rfl) ?_
            refine ev_ist3 dX12_lieMany_107 (by decide) rfl ?_
            refine ev_iinc4 dX12_lieMany_108 (nI_inc _) (by decide) rfl ?_
            refine ev_goto (tgt := 5) dX12_lieMany_111 (by decide) ?_
            refine ev_fg5 ?_
            refine ev_fg6 ?_
            refine ev_fg7 ?_
            exact ih (k + 1) (by omega)
  exact lp 64 0 rfl
theorem qX12_lieMany {G : GX} {w : WS} {S : ST} (hS : mR S w) {b : Bool} {c : Nat} (h1 : 1 ≤ c) (h7 : c ≤ 7) : Big G 2 0 mX12_lieMany [.ref 115, .int (bI b), .int (nI c)] w (.inl (some (.int (nI (lys S b c))))) w := by
  cases b with
  | true => exact qX12_lieMany_true hS h1 h7
  | false => exact qX12_lieMany_false hS h1 h7
/-! orders -/
theorem sb_0 {a b : Nat} (ha : a < 2 ^ 30) (hb : b < 2 ^ 30) : nI a - nI b = 0 ↔ a = b := by
  rw [← Int32.toInt_inj, pk_sub_toInt ha hb, Int32.toInt_zero]
  omega
theorem sb_g {a b : Nat} (ha : a < 2 ^ 30) (hb : b < 2 ^ 30) : 0 < nI a - nI b ↔ b < a := by
  rw [Int32.lt_iff_toInt_lt, pk_sub_toInt ha hb, Int32.toInt_zero]
  omega
theorem ahd_nI {f g : Nat → Int32} {a b p q u v : Nat} (hp : f a = nI p) (hq : f b = nI q) (hu : g a = nI u) (hv : g b = nI v) (p1 : p < 2 ^ 30) (q1 : q < 2 ^ 30) (u1 : u < 2 ^ 30) (v1 : v < 2 ^ 30) : ahd f g a b = decide (q < p ∨ (p = q ∧ (v < u ∨ (u = v ∧ a < b)))) := by
  unfold ahd
  rw [hp, hq, hu, hv]
  by_cases h : p = q
  · subst h
    rw [if_pos rfl]
    by_cases h2 : u = v
    · subst h2
      rw [if_pos rfl]
      by_cases h3 : a < b
      · rw [decide_eq_true h3, decide_eq_true (Or.inr ⟨rfl, Or.inr ⟨rfl, h3⟩⟩)]
      · rw [decide_eq_false h3, decide_eq_false (by omega)]
    · rw [if_neg (fun z => h2 (nI_inj (by omega) (by omega) z))]
      by_cases h3 : v < u
      · rw [decide_eq_true ((pk_lt' (by omega) (by omega)).mpr h3), decide_eq_true (Or.inr ⟨rfl, Or.inl h3⟩)]
      · rw [decide_eq_false (fun z => h3 ((pk_lt' (by omega) (by omega)).mp z)), decide_eq_false (by omega)]
  · rw [if_neg (fun z => h (nI_inj (by omega) (by omega) z))]
    by_cases h3 : q < p
    · rw [decide_eq_true ((pk_lt' (by omega) (by omega)).mpr h3), decide_eq_true (Or.inl h3)]
    · rw [decide_eq_false (fun z => h3 ((pk_lt' (by omega) (by omega)).mp z)), decide_eq_false (by omega)]
theorem ahd_iff {f g : Nat → Int32} {a b : Nat} : ahd f g a b = true ↔ (f b).toInt < (f a).toInt ∨ ((f a).toInt = (f b).toInt ∧ ((g b).toInt < (g a).toInt ∨ ((g a).toInt = (g b).toInt ∧ a < b))) := by
  unfold ahd
  by_cases h : f a = f b
  · rw [if_pos h]
    by_cases h2 : g a = g b
    · rw [if_pos h2, decide_eq_true_iff, h, h2]
      omega
    · rw [if_neg h2, decide_eq_true_iff, h, Int32.lt_iff_toInt_lt]
      have : (g a).toInt ≠ (g b).toInt := fun q => h2 (Int32.toInt_inj.mp q)
      omega
  · rw [if_neg h, decide_eq_true_iff, Int32.lt_iff_toInt_lt]
    have : (f a).toInt ≠ (f b).toInt := fun q => h (Int32.toInt_inj.mp q)
    omega
theorem rk_lt {f g : Nat → Int32} {n a : Nat} (ha : a < n) : rk f g n a < n := by
  have h := ct_lt (p := fun o => ahd f g o a) (q := fun _ => true) ha ahd_rf rfl (fun _ _ _ => rfl)
  have := ct_le (fun _ => true) n
  unfold rk
  omega
theorem rk_ne {f g : Nat → Int32} {n a b : Nat} (ha : a < n) (hb : b < n) (h : a ≠ b) : rk f g n a ≠ rk f g n b := by
  have tr : ∀ a b, a < n → ahd f g a b = true → rk f g n a < rk f g n b := by
    intro a b ha h
    refine ct_lt (p := fun o => ahd f g o a) (q := fun o => ahd f g o b) ha ahd_rf h (fun x hx hxa => ?_)
    have h1 := ahd_iff.mp hxa
    have h2 := ahd_iff.mp h
    refine ahd_iff.mpr ?_
    omega
  have tot : ahd f g a b = true ∨ ahd f g b a = true := by
    rw [ahd_iff, ahd_iff]
    omega
  rcases tot with q | q
  · have := tr a b ha q; omega
  · have := tr b a hb q; omega
theorem rk_ex {f g : Nat → Int32} {n p : Nat} (hn : n ≤ 4) (hp : p < n) : ∃ a, a < n ∧ rk f g n a = p := by
  have hl := fun a (h : a < n) => rk_lt (f := f) (g := g) h
  have hne := fun a b (h1 : a < n) (h2 : b < n) (h : a ≠ b) => rk_ne (f := f) (g := g) h1 h2 h
  refine Decidable.byContradiction (fun hc => ?_)
  have hno : ∀ a, a < n → rk f g n a ≠ p := fun a h q => hc ⟨a, h, q⟩
  obtain rfl | rfl | rfl | rfl : n = 1 ∨ n = 2 ∨ n = 3 ∨ n = 4 := by omega
  · have := hl 0 (by decide); have := hno 0 (by decide); omega
  · have := hl 0 (by decide); have := hno 0 (by decide); have := hl 1 (by decide); have := hno 1 (by decide)
    have := hne 0 1 (by decide) (by decide) (by decide); omega
  · have := hl 0 (by decide); have := hno 0 (by decide); have := hl 1 (by decide); have := hno 1 (by decide); have := hl 2 (by decide); have := hno 2 (by decide)
    have := hne 0 1 (by decide) (by decide) (by decide); have := hne 0 2 (by decide) (by decide) (by decide); have := hne 1 2 (by decide) (by decide) (by decide); omega
  · have := hl 0 (by decide); have := hno 0 (by decide); have := hl 1 (by decide); have := hno 1 (by decide); have := hl 2 (by decide); have := hno 2 (by decide); have := hl 3 (by decide); have := hno 3 (by decide)
    have := hne 0 1 (by decide) (by decide) (by decide); have := hne 0 2 (by decide) (by decide) (by decide); have := hne 1 2 (by decide) (by decide) (by decide); have := hne 0 3 (by decide) (by decide) (by decide); have := hne 1 3 (by decide) (by decide) (by decide); have := hne 2 3 (by decide) (by decide) (by decide); omega
/-- the last number with that rank -/
def fl_k (f g : Nat → Int32) (n p : Nat) : Nat → Nat
  | 0 => 0
  | k + 1 => if rk f g n k = p then k else fl_k f g n p k
theorem fl_k_eq {f g : Nat → Int32} {n p a : Nat} (ha : a < n) (h : rk f g n a = p) : ∀ k, k ≤ n → a < k → fl_k f g n p k = a := by
  intro k
  induction k with
  | zero => intro _ q; omega
  | succ k ih =>
    intro hk hak
    rw [fl_k]
    by_cases e : k = a
    · subst e; rw [if_pos h]
    · rw [if_neg (fun q => rk_ne (f := f) (g := g) (by omega) ha e (q.trans h.symm))]
      exact ih (by omega) (by omega)
theorem plc_y {f g : Nat → Int32} {n p : Nat} (hn : n ≤ 4) (hp : p < n) : plc f g n (nI p) = some (fl_k f g n p n) ∧ fl_k f g n p n < n := by
  obtain ⟨a, ha, h⟩ := rk_ex (f := f) (g := g) hn hp
  rw [fl_k_eq ha h n (Nat.le_refl _) ha]
  refine ⟨find_some ha (beq_iff_eq.mpr (by rw [h])) (fun j hj => beq_eq_false_iff_ne.mpr (fun q => ?_)), ha⟩
  have h1 := rk_lt (f := f) (g := g) (show j < n by omega)
  exact rk_ne (f := f) (g := g) (show j < n by omega) ha (by omega) ((nI_inj (by omega) (by omega) q).trans h.symm)
theorem plc_n {f g : Nat → Int32} {n : Nat} {x : Int32} (hn : n ≤ 4) (hx : out_ n x) : plc f g n x = none := find_none (fun j hj => beq_eq_false_iff_ne.mpr (fun q => out_ne hx (rk_lt hj) (by omega) q.symm))
theorem wgt_le {S : ST} (hk : okS S) {i : Nat} (hi : i < nR S) : wgt S i ≤ 62 := by
  have h1 := (hk.2.1.2 i hi).2.2.1
  have h2 := sm_le (f := wf S i) (b := 2) (n := rN S i + 1) (fun p _ => by unfold wf; split <;> omega)
  have h3 := ct_le (xs S i) (rN S i)
  unfold wgt
  omega
set_option maxRecDepth 4000 in
theorem qX12_isAhead_true {G : GX} {w : WS} {S : ST} (hS : mR S w) {a b : Nat} (ha : a < nR S) (hb : b < nR S) : Big G 6 0 mX12_isAhead [.ref 115, .int (nI a), .int (nI b), .int (bI true)] w (.inl (some (.int (bI (ahd (fV S) (gV S) a b))))) w := by
  refine big_of (by decide +kernel) (Nat.le_of_ble_eq_true rfl) ?_
  have hS0 := hS
  obtain ⟨⟨q0, q1, ⟨m0, m1, m2, m3, m4⟩, qr, qc, qv, qd⟩, hk1, hk2, hk3, hk4⟩ := hS
  have h4 := hk2.1
  have h5 := hk3.1
  obtain ⟨p, hp⟩ : ∃ p, p = wgt S a := ⟨_, rfl⟩
  obtain ⟨q, hq⟩ : ∃ q, q = wgt S b := ⟨_, rfl⟩
  obtain ⟨u, hu0⟩ : ∃ u, u = rN S a := ⟨_, rfl⟩
  obtain ⟨v, hv0⟩ : ∃ v, v = rN S b := ⟨_, rfl⟩
  have hp1 : p < 2 ^ 30 := by have := wgt_le hS0.2 ha; omega
  have hq1 : q < 2 ^ 30 := by have := wgt_le hS0.2 hb; omega
  have hu1 : u < 2 ^ 30 := by have := (hk2.2 a ha).2.2.1; omega
  have hv1 : v < 2 ^ 30 := by have := (hk2.2 b hb).2.2.1; omega
  have he := ahd_nI (f := fV S) (g := gV S) (a := a) (b := b) (p := p) (q := q) (u := u) (v := v) (by rw [hp]; rfl) (by rw [hq]; rfl) (by rw [hu0]; rfl) (by rw [hv0]; rfl) hp1 hq1 hu1 hv1
  show Ev G 6 0 mX12_isAhead 0 [some (.ref 115), some (.int (nI a)), some (.int (nI b)), some (.int (bI true)), none, none] [] w _
  refine ev_iload_n dX12_isAhead_0 rfl ?_
  refine ev_if_eq_f (tgt := 18) dX12_isAhead_1 (by decide) (by decide) ?_
  refine ev_aload_n dX12_isAhead_4 rfl ?_
  refine ev_iload_n dX12_isAhead_5 rfl ?_
  refine ev_callV kX12_171 co115 (qX12_weighs hS0 ha) dX12_isAhead_6 rfl (by decide) (by decide) rfl ?_
  refine ev_aload_n dX12_isAhead_9 rfl ?_
  refine ev_iload_n dX12_isAhead_10 rfl ?_
  refine ev_callV kX12_171 co115 (qX12_weighs hS0 hb) dX12_isAhead_11 rfl (by decide) (by decide) rfl ?_
  rw [← hp, ← hq]
  refine ev_isub dX12_isAhead_14 ?_
  refine ev_top rfl ?_
  refine ev_goto (tgt := 29) dX12_isAhead_15 (by decide) ?_
  refine ev_ist4 dX12_isAhead_29 (by decide) rfl ?_
  refine ev_iload_n dX12_isAhead_31 rfl ?_
  refine ev_if_eq_f (tgt := 49) dX12_isAhead_32 (by decide) (by decide) ?_
  refine ev_aload_n dX12_isAhead_35 rfl ?_
  refine ev_iload_n dX12_isAhead_36 rfl ?_
  refine ev_callV kX12_156 co115 (qX12_steps hS0 ha) dX12_isAhead_37 rfl (by decide) (by decide) rfl ?_
  refine ev_aload_n dX12_isAhead_40 rfl ?_
  refine ev_iload_n dX12_isAhead_41 rfl ?_
  refine ev_callV kX12_156 co115 (qX12_steps hS0 hb) dX12_isAhead_42 rfl (by decide) (by decide) rfl ?_
  rw [← hu0, ← hv0]
  refine ev_isub dX12_isAhead_45 ?_
  refine ev_top rfl ?_
  refine ev_goto (tgt := 72) dX12_isAhead_46 (by decide) ?_
  refine ev_ist5 dX12_isAhead_72 (by decide) rfl ?_
  refine ev_iload dX12_isAhead_74 rfl ?_
  refine ev_if_eq (tgt := 84) dX12_isAhead_76 (by decide) (fun hc76 => ?_) (fun hc76 => ?_)
  · have e76 : p = q := (sb_0 hp1 hq1).mp hc76
    refine ev_iload dX12_isAhead_84 rfl ?_
    refine ev_ist4 dX12_isAhead_86 (by decide) rfl ?_
    refine ev_iload dX12_isAhead_88 rfl ?_
    refine ev_if_gt (tgt := 103) dX12_isAhead_90 (by decide) (fun hc90 => ?_) (fun hc90 => ?_)
    · have e90 : v < u := (sb_g hu1 hv1).mp hc90
      refine ev_iconst dX12_isAhead_103 ic1 ?_
      refine ev_goto (tgt := 108) dX12_isAhead_104 (by decide) ?_
      exact ev_iret dX12_isAhead_108 rfl rfl (obT (by rw [he]; exact decide_eq_true (by omega))) rfl
    · have e90 : ¬ v < u := fun z => hc90 ((sb_g hu1 hv1).mpr z)
      refine ev_iload dX12_isAhead_93 rfl ?_
      refine ev_if_ne (tgt := 107) dX12_isAhead_95 (by decide) (fun hc95 => ?_) (fun hc95 => ?_)
      · have e95 : ¬ u = v := fun z => hc95 ((sb_0 hu1 hv1).mpr z)
        refine ev_iconst dX12_isAhead_107 ic0 ?_
        exact ev_iret dX12_isAhead_108 rfl rfl (obF (by rw [he]; exact decide_eq_false (by omega))) rfl
      · have e95 : u = v := (sb_0 hu1 hv1).mp hc95
        refine ev_iload_n dX12_isAhead_98 rfl ?_
        refine ev_iload_n dX12_isAhead_99 rfl ?_
        refine ev_icmp_ge (tgt := 107) dX12_isAhead_100 (by decide) (fun hc100 => ?_) (fun hc100 => ?_)
        · have e100 : ¬ a < b := fun z => nI_ge z (by omega) hc100
          refine ev_iconst dX12_isAhead_107 ic0 ?_
          exact ev_iret dX12_isAhead_108 rfl rfl (obF (by rw [he]; exact decide_eq_false (by omega))) rfl
        · have e100 : a < b := Nat.lt_of_not_le (fun z => hc100 (nI_le z (by omega)))
          refine ev_iconst dX12_isAhead_103 ic1 ?_
          refine ev_goto (tgt := 108) dX12_isAhead_104 (by decide) ?_
          exact ev_iret dX12_isAhead_108 rfl rfl (obT (by rw [he]; exact decide_eq_true (by omega))) rfl
  · have e76 : ¬ p = q := fun z => hc76 ((sb_0 hp1 hq1).mpr z)
    refine ev_iload dX12_isAhead_79 rfl ?_
    refine ev_goto (tgt := 86) dX12_isAhead_81 (by decide) ?_
    refine ev_ist4 dX12_isAhead_86 (by decide) rfl ?_
    refine ev_iload dX12_isAhead_88 rfl ?_
    refine ev_if_gt (tgt := 103) dX12_isAhead_90 (by decide) (fun hc90 => ?_) (fun hc90 => ?_)
    · have e90 : q < p := (sb_g hp1 hq1).mp hc90
      refine ev_iconst dX12_isAhead_103 ic1 ?_
      refine ev_goto (tgt := 108) dX12_isAhead_104 (by decide) ?_
      exact ev_iret dX12_isAhead_108 rfl rfl (obT (by rw [he]; exact decide_eq_true (by omega))) rfl
    · have e90 : ¬ q < p := fun z => hc90 ((sb_g hp1 hq1).mpr z)
      refine ev_iload dX12_isAhead_93 rfl ?_
      refine ev_if_ne_t (tgt := 107) dX12_isAhead_95 (by decide) hc76 ?_
      refine ev_iconst dX12_isAhead_107 ic0 ?_
      exact ev_iret dX12_isAhead_108 rfl rfl (obF (by rw [he]; exact decide_eq_false (by omega))) rfl
set_option maxRecDepth 4000 in
theorem qX12_isAhead_false {G : GX} {w : WS} {S : ST} (hS : mR S w) {a b : Nat} (hcn : cnS S) (ha : a < 4) (hb : b < 4) : Big G 6 0 mX12_isAhead [.ref 115, .int (nI a), .int (nI b), .int (bI false)] w (.inl (some (.int (bI (ahd (fR S) (sC S) a b))))) w := by
  refine big_of (by decide +kernel) (Nat.le_of_ble_eq_true rfl) ?_
  have hS0 := hS
  obtain ⟨⟨q0, q1, ⟨m0, m1, m2, m3, m4⟩, qr, qc, qv, qd⟩, hk1, hk2, hk3, hk4⟩ := hS
  have h4 := hk2.1
  have h5 := hk3.1
  obtain ⟨cn, wn, ln, lc, c1, c2, c3, c4⟩ := hcn
  obtain ⟨p, hp⟩ : ∃ p, p = cO S (nI a) := ⟨_, rfl⟩
  obtain ⟨q, hq⟩ : ∃ q, q = cO S (nI b) := ⟨_, rfl⟩
  obtain ⟨u, hu0⟩ : ∃ u, u = cn a := ⟨_, rfl⟩
  obtain ⟨v, hv0⟩ : ∃ v, v = cn b := ⟨_, rfl⟩
  have hu : sC S a = nI u := by rw [hu0]; exact (c1 a ha).1
  have hv : sC S b = nI v := by rw [hv0]; exact (c1 b hb).1
  have hp1 : p < 2 ^ 30 := by have := ct_le (fun c => sO S c == nI a) 64; rw [hp]; unfold cO; omega
  have hq1 : q < 2 ^ 30 := by have := ct_le (fun c => sO S c == nI b) 64; rw [hq]; unfold cO; omega
  have hu1 : u < 2 ^ 30 := by have := cn_le (f := cn) ha; omega
  have hv1 : v < 2 ^ 30 := by have := cn_le (f := cn) hb; omega
  have he := ahd_nI (f := fR S) (g := sC S) (a := a) (b := b) (p := p) (q := q) (u := u) (v := v) (by rw [hp]; rfl) (by rw [hq]; rfl) hu hv hp1 hq1 hu1 hv1
  show Ev G 6 0 mX12_isAhead 0 [some (.ref 115), some (.int (nI a)), some (.int (nI b)), some (.int (bI false)), none, none] [] w _
  refine ev_iload_n dX12_isAhead_0 rfl ?_
  refine ev_if_eq_t (tgt := 18) dX12_isAhead_1 (by decide) rfl ?_
  refine ev_aload_n dX12_isAhead_18 rfl ?_
  refine ev_iload_n dX12_isAhead_19 rfl ?_
  refine ev_callV kX12_110 co115 (qX12_cellsOf hS0) dX12_isAhead_20 rfl (by decide) (by decide) rfl ?_
  refine ev_aload_n dX12_isAhead_23 rfl ?_
  refine ev_iload_n dX12_isAhead_24 rfl ?_
  refine ev_callV kX12_110 co115 (qX12_cellsOf hS0) dX12_isAhead_25 rfl (by decide) (by decide) rfl ?_
  rw [← hp, ← hq]
  refine ev_isub dX12_isAhead_28 ?_
  refine ev_top rfl ?_
  refine ev_ist4 dX12_isAhead_29 (by decide) rfl ?_
  refine ev_iload_n dX12_isAhead_31 rfl ?_
  refine ev_if_eq_t (tgt := 49) dX12_isAhead_32 (by decide) rfl ?_
  refine ev_aload_n dX12_isAhead_49 rfl ?_
  refine ev_getR fX12_9 dX12_isAhead_50 (by decide) sh115 rfl ?_
  refine ev_bipush (v := nI 7) dX12_isAhead_53 (by decide) ?_
  refine ev_iconst dX12_isAhead_55 ic3 ?_
  refine ev_iload_n dX12_isAhead_56 rfl ?_
  refine ev_imul dX12_isAhead_57 ?_
  first | refine ev_top (pk_mul _ _) ?_ | skip
  refine ev_iadd dX12_isAhead_58 ?_
  first | refine ev_top (nI_add _ _) ?_ | skip
  refine ev_iaload dX12_isAhead_59 rfl (by omega) (by decide) sh116 ?_
  refine ev_top ((qr a ha).1.trans hu) ?_
  refine ev_aload_n dX12_isAhead_60 rfl ?_
  refine ev_getR fX12_9 dX12_isAhead_61 (by decide) sh115 rfl ?_
  refine ev_bipush (v := nI 7) dX12_isAhead_64 (by decide) ?_
  refine ev_iconst dX12_isAhead_66 ic3 ?_
  refine ev_iload_n dX12_isAhead_67 rfl ?_
  refine ev_imul dX12_isAhead_68 ?_
  first | refine ev_top (pk_mul _ _) ?_ | skip
  refine ev_iadd dX12_isAhead_69 ?_
  first | refine ev_top (nI_add _ _) ?_ | skip
  refine ev_iaload dX12_isAhead_70 rfl (by omega) (by decide) sh116 ?_
  refine ev_top ((qr b hb).1.trans hv) ?_
  refine ev_isub dX12_isAhead_71 ?_
  refine ev_top rfl ?_
  refine ev_ist5 dX12_isAhead_72 (by decide) rfl ?_
  refine ev_iload dX12_isAhead_74 rfl ?_
  refine ev_if_eq (tgt := 84) dX12_isAhead_76 (by decide) (fun hc76 => ?_) (fun hc76 => ?_)
  · have e76 : p = q := (sb_0 hp1 hq1).mp hc76
    refine ev_iload dX12_isAhead_84 rfl ?_
    refine ev_ist4 dX12_isAhead_86 (by decide) rfl ?_
    refine ev_iload dX12_isAhead_88 rfl ?_
    refine ev_if_gt (tgt := 103) dX12_isAhead_90 (by decide) (fun hc90 => ?_) (fun hc90 => ?_)
    · have e90 : v < u := (sb_g hu1 hv1).mp hc90
      refine ev_iconst dX12_isAhead_103 ic1 ?_
      refine ev_goto (tgt := 108) dX12_isAhead_104 (by decide) ?_
      exact ev_iret dX12_isAhead_108 rfl rfl (obT (by rw [he]; exact decide_eq_true (by omega))) rfl
    · have e90 : ¬ v < u := fun z => hc90 ((sb_g hu1 hv1).mpr z)
      refine ev_iload dX12_isAhead_93 rfl ?_
      refine ev_if_ne (tgt := 107) dX12_isAhead_95 (by decide) (fun hc95 => ?_) (fun hc95 => ?_)
      · have e95 : ¬ u = v := fun z => hc95 ((sb_0 hu1 hv1).mpr z)
        refine ev_iconst dX12_isAhead_107 ic0 ?_
        exact ev_iret dX12_isAhead_108 rfl rfl (obF (by rw [he]; exact decide_eq_false (by omega))) rfl
      · have e95 : u = v := (sb_0 hu1 hv1).mp hc95
        refine ev_iload_n dX12_isAhead_98 rfl ?_
        refine ev_iload_n dX12_isAhead_99 rfl ?_
        refine ev_icmp_ge (tgt := 107) dX12_isAhead_100 (by decide) (fun hc100 => ?_) (fun hc100 => ?_)
        · have e100 : ¬ a < b := fun z => nI_ge z (by omega) hc100
          refine ev_iconst dX12_isAhead_107 ic0 ?_
          exact ev_iret dX12_isAhead_108 rfl rfl (obF (by rw [he]; exact decide_eq_false (by omega))) rfl
        · have e100 : a < b := Nat.lt_of_not_le (fun z => hc100 (nI_le z (by omega)))
          refine ev_iconst dX12_isAhead_103 ic1 ?_
          refine ev_goto (tgt := 108) dX12_isAhead_104 (by decide) ?_
          exact ev_iret dX12_isAhead_108 rfl rfl (obT (by rw [he]; exact decide_eq_true (by omega))) rfl
  · have e76 : ¬ p = q := fun z => hc76 ((sb_0 hp1 hq1).mpr z)
    refine ev_iload dX12_isAhead_79 rfl ?_
    refine ev_goto (tgt := 86) dX12_isAhead_81 (by decide) ?_
    refine ev_ist4 dX12_isAhead_86 (by decide) rfl ?_
    refine ev_iload dX12_isAhead_88 rfl ?_
    refine ev_if_gt (tgt := 103) dX12_isAhead_90 (by decide) (fun hc90 => ?_) (fun hc90 => ?_)
    · have e90 : q < p := (sb_g hp1 hq1).mp hc90
      refine ev_iconst dX12_isAhead_103 ic1 ?_
      refine ev_goto (tgt := 108) dX12_isAhead_104 (by decide) ?_
      exact ev_iret dX12_isAhead_108 rfl rfl (obT (by rw [he]; exact decide_eq_true (by omega))) rfl
    · have e90 : ¬ q < p := fun z => hc90 ((sb_g hp1 hq1).mpr z)
      refine ev_iload dX12_isAhead_93 rfl ?_
      refine ev_if_ne_t (tgt := 107) dX12_isAhead_95 (by decide) hc76 ?_
      refine ev_iconst dX12_isAhead_107 ic0 ?_
      exact ev_iret dX12_isAhead_108 rfl rfl (obF (by rw [he]; exact decide_eq_false (by omega))) rfl
set_option maxRecDepth 4000 in
theorem qX12_placed_true {G : GX} {w : WS} {S : ST} (hS : mR S w) {p : Nat} (hp : p < nR S) : Big G 7 0 mX12_placed [.ref 115, .int (nI p), .int (nI (nR S)), .int (bI true)] w (.inl (some (.int (nI (fl_k (fV S) (gV S) (nR S) p (nR S)))))) w := by
  refine big_of (by decide +kernel) (Nat.le_of_ble_eq_true rfl) ?_
  have hS0 := hS
  obtain ⟨⟨q0, q1, ⟨m0, m1, m2, m3, m4⟩, qr, qc, qv, qd⟩, hk1, hk2, hk3, hk4⟩ := hS
  have h4 := hk2.1
  have h5 := hk3.1
  show Ev G 7 0 mX12_placed 0 [some (.ref 115), some (.int (nI p)), some (.int (nI (nR S))), some (.int (bI true)), none, none, none, none] [] w _
  refine ev_iconst dX12_placed_0 ic0 ?_
  refine ev_ist4 dX12_placed_1 (by decide) rfl ?_
  refine ev_iconst dX12_placed_3 ic0 ?_
  refine ev_ist5 dX12_placed_4 (by decide) rfl ?_
  have lp : ∀ (n9 a : Nat) , a + n9 = (nR S) → Ev G 7 0 mX12_placed 6 [some (.ref 115), some (.int (nI p)), some (.int (nI (nR S))), some (.int (bI true)), some (.int (nI (fl_k (fV S) (gV S) (nR S) p a))), some (.int (nI a)), none, none] [] w (zu_ G (.inl (some (.int (nI (fl_k (fV S) (gV S) (nR S) p (nR S)))))) w) := by
    intro n9
    induction n9 with
    | zero =>
      intro a  hi9 
      refine ev_iload dX12_placed_6 rfl ?_
      refine ev_iload_n dX12_placed_8 rfl ?_
      refine ev_icmp_ge_t (tgt := 73) dX12_placed_9 (by decide) (nI_le (by omega) (by omega)) ?_
      refine ev_iload dX12_placed_73 rfl ?_
      exact ev_iret dX12_placed_75 rfl rfl (by rw [show a = (nR S) by omega]) rfl
    | succ n9 ih =>
      intro a  hi9 
      refine ev_iload dX12_placed_6 rfl ?_
      refine ev_iload_n dX12_placed_8 rfl ?_
      refine ev_icmp_ge_f (tgt := 73) dX12_placed_9 (by decide) (nI_ge (by omega) (by omega)) ?_
      refine ev_iconst dX12_placed_12 ic0 ?_
      refine ev_ist6 dX12_placed_13 (by decide) rfl ?_
      refine ev_iconst dX12_placed_15 ic0 ?_
      refine ev_ist7 dX12_placed_16 (by decide) rfl ?_
      have hend : Ev G 7 0 mX12_placed 52 [some (.ref 115), some (.int (nI p)), some (.int (nI (nR S))), some (.int (bI true)), some (.int (nI (fl_k (fV S) (gV S) (nR S) p a))), some (.int (nI a)), some (.int (nI (ct (fun o => ahd (fV S) (gV S) o a) (nR S)))), some (.int (nI (nR S)))] [] w (zu_ G (.inl (some (.int (nI (fl_k (fV S) (gV S) (nR S) p (nR S)))))) w) := by
        refine ev_iload dX12_placed_52 rfl ?_
        refine ev_iload_n dX12_placed_54 rfl ?_
        refine ev_icmp_ne (tgt := 63) dX12_placed_55 (by decide) (fun hc55 => ?_) (fun hc55 => ?_)
        · have e55 : ¬ rk (fV S) (gV S) (nR S) a = p := fun z => hc55 (by rw [← z]; rfl)
          refine ev_iload dX12_placed_63 rfl ?_
          rw [show fl_k (fV S) (gV S) (nR S) p a = fl_k (fV S) (gV S) (nR S) p (a + 1) by rw [fl_k, if_neg e55]]
          refine ev_ist4 dX12_placed_65 (by decide) rfl ?_
          refine ev_iinc5 dX12_placed_67 (nI_inc _) (by decide) rfl ?_
          refine ev_goto (tgt := 6) dX12_placed_70 (by decide) ?_
          refine ev_fg6 ?_
          refine ev_fg7 ?_
          exact ih (a + 1) (by omega)
        · have e55 : rk (fV S) (gV S) (nR S) a = p := nI_inj (by have := rk_lt (f := (fV S)) (g := (gV S)) (n := (nR S)) (a := a) (by omega); omega) (by omega) hc55
          refine ev_iload dX12_placed_58 rfl ?_
          refine ev_goto (tgt := 65) dX12_placed_60 (by decide) ?_
          refine ev_top (y := nI (fl_k (fV S) (gV S) (nR S) p (a + 1))) (by rw [fl_k, if_pos e55]) ?_
          refine ev_ist4 dX12_placed_65 (by decide) rfl ?_
          refine ev_iinc5 dX12_placed_67 (nI_inc _) (by decide) rfl ?_
          refine ev_goto (tgt := 6) dX12_placed_70 (by decide) ?_
          refine ev_fg6 ?_
          refine ev_fg7 ?_
          exact ih (a + 1) (by omega)
      have lp2 : ∀ (n8 o : Nat) , o + n8 = (nR S) → Ev G 7 0 mX12_placed 18 [some (.ref 115), some (.int (nI p)), some (.int (nI (nR S))), some (.int (bI true)), some (.int (nI (fl_k (fV S) (gV S) (nR S) p a))), some (.int (nI a)), some (.int (nI (ct (fun o => ahd (fV S) (gV S) o a) o))), some (.int (nI o))] [] w (zu_ G (.inl (some (.int (nI (fl_k (fV S) (gV S) (nR S) p (nR S)))))) w) := by
        intro n8
        induction n8 with
        | zero =>
          intro o  hi8 
          refine ev_iload dX12_placed_18 rfl ?_
          refine ev_iload_n dX12_placed_20 rfl ?_
          refine ev_icmp_ge_t (tgt := 52) dX12_placed_21 (by decide) (nI_le (by omega) (by omega)) ?_
          have eo : o = nR S := by omega
          rw [eo]
          exact hend
        | succ n8 ih2 =>
          intro o  hi8 
          refine ev_iload dX12_placed_18 rfl ?_
          refine ev_iload_n dX12_placed_20 rfl ?_
          refine ev_icmp_ge_f (tgt := 52) dX12_placed_21 (by decide) (nI_ge (by omega) (by omega)) ?_
          refine ev_iload dX12_placed_24 rfl ?_
          refine ev_aload_n dX12_placed_26 rfl ?_
          refine ev_iload dX12_placed_27 rfl ?_
          refine ev_iload dX12_placed_29 rfl ?_
          refine ev_iload_n dX12_placed_31 rfl ?_
          refine ev_callV kX12_207 co115 (qX12_isAhead_true hS0 (by omega) (by omega)) dX12_placed_32 rfl (by decide) (by decide) rfl ?_
          refine ev_ifb_eq (tgt := 42) dX12_placed_35 (by decide) (fun hc35 => ?_) (fun hc35 => ?_)
          · refine ev_iconst dX12_placed_42 ic0 ?_
            refine ev_iadd dX12_placed_43 ?_
            refine ev_top (y := nI (ct (fun o => ahd (fV S) (gV S) o a) (o + 1))) (by rw [nI_add, ct_f (p := (fun o => ahd (fV S) (gV S) o a)) hc35]; rfl) ?_
            refine ev_ist6 dX12_placed_44 (by decide) rfl ?_
            refine ev_iinc7 dX12_placed_46 (nI_inc _) (by decide) rfl ?_
            refine ev_goto (tgt := 18) dX12_placed_49 (by decide) ?_
            exact ih2 (o + 1) (by omega)
          · refine ev_iconst dX12_placed_38 ic1 ?_
            refine ev_goto (tgt := 43) dX12_placed_39 (by decide) ?_
            refine ev_iadd dX12_placed_43 ?_
            refine ev_top (y := nI (ct (fun o => ahd (fV S) (gV S) o a) (o + 1))) (by rw [nI_add, ct_t (p := (fun o => ahd (fV S) (gV S) o a)) hc35]) ?_
            refine ev_ist6 dX12_placed_44 (by decide) rfl ?_
            refine ev_iinc7 dX12_placed_46 (nI_inc _) (by decide) rfl ?_
            refine ev_goto (tgt := 18) dX12_placed_49 (by decide) ?_
            exact ih2 (o + 1) (by omega)
      exact lp2 (nR S) 0 (Nat.zero_add _)
  exact lp (nR S) 0 (Nat.zero_add _)
set_option maxRecDepth 4000 in
theorem qX12_placed_false {G : GX} {w : WS} {S : ST} (hS : mR S w) {p : Nat} (hcn : cnS S) (hp : p < 4) : Big G 7 0 mX12_placed [.ref 115, .int (nI p), .int (nI 4), .int (bI false)] w (.inl (some (.int (nI (fl_k (fR S) (sC S) 4 p 4))))) w := by
  refine big_of (by decide +kernel) (Nat.le_of_ble_eq_true rfl) ?_
  have hS0 := hS
  obtain ⟨⟨q0, q1, ⟨m0, m1, m2, m3, m4⟩, qr, qc, qv, qd⟩, hk1, hk2, hk3, hk4⟩ := hS
  have h4 := hk2.1
  have h5 := hk3.1
  show Ev G 7 0 mX12_placed 0 [some (.ref 115), some (.int (nI p)), some (.int (nI 4)), some (.int (bI false)), none, none, none, none] [] w _
  refine ev_iconst dX12_placed_0 ic0 ?_
  refine ev_ist4 dX12_placed_1 (by decide) rfl ?_
  refine ev_iconst dX12_placed_3 ic0 ?_
  refine ev_ist5 dX12_placed_4 (by decide) rfl ?_
  have lp : ∀ (n9 a : Nat) , a + n9 = 4 → Ev G 7 0 mX12_placed 6 [some (.ref 115), some (.int (nI p)), some (.int (nI 4)), some (.int (bI false)), some (.int (nI (fl_k (fR S) (sC S) 4 p a))), some (.int (nI a)), none, none] [] w (zu_ G (.inl (some (.int (nI (fl_k (fR S) (sC S) 4 p 4))))) w) := by
    intro n9
    induction n9 with
    | zero =>
      intro a  hi9 
      refine ev_iload dX12_placed_6 rfl ?_
      refine ev_iload_n dX12_placed_8 rfl ?_
      refine ev_icmp_ge_t (tgt := 73) dX12_placed_9 (by decide) (nI_le (by omega) (by omega)) ?_
      refine ev_iload dX12_placed_73 rfl ?_
      exact ev_iret dX12_placed_75 rfl rfl (by rw [show a = 4 by omega]) rfl
    | succ n9 ih =>
      intro a  hi9 
      refine ev_iload dX12_placed_6 rfl ?_
      refine ev_iload_n dX12_placed_8 rfl ?_
      refine ev_icmp_ge_f (tgt := 73) dX12_placed_9 (by decide) (nI_ge (by omega) (by omega)) ?_
      refine ev_iconst dX12_placed_12 ic0 ?_
      refine ev_ist6 dX12_placed_13 (by decide) rfl ?_
      refine ev_iconst dX12_placed_15 ic0 ?_
      refine ev_ist7 dX12_placed_16 (by decide) rfl ?_
      have hend : Ev G 7 0 mX12_placed 52 [some (.ref 115), some (.int (nI p)), some (.int (nI 4)), some (.int (bI false)), some (.int (nI (fl_k (fR S) (sC S) 4 p a))), some (.int (nI a)), some (.int (nI (ct (fun o => ahd (fR S) (sC S) o a) 4))), some (.int (nI 4))] [] w (zu_ G (.inl (some (.int (nI (fl_k (fR S) (sC S) 4 p 4))))) w) := by
        refine ev_iload dX12_placed_52 rfl ?_
        refine ev_iload_n dX12_placed_54 rfl ?_
        refine ev_icmp_ne (tgt := 63) dX12_placed_55 (by decide) (fun hc55 => ?_) (fun hc55 => ?_)
        · have e55 : ¬ rk (fR S) (sC S) 4 a = p := fun z => hc55 (by rw [← z]; rfl)
          refine ev_iload dX12_placed_63 rfl ?_
          rw [show fl_k (fR S) (sC S) 4 p a = fl_k (fR S) (sC S) 4 p (a + 1) by rw [fl_k, if_neg e55]]
          refine ev_ist4 dX12_placed_65 (by decide) rfl ?_
          refine ev_iinc5 dX12_placed_67 (nI_inc _) (by decide) rfl ?_
          refine ev_goto (tgt := 6) dX12_placed_70 (by decide) ?_
          refine ev_fg6 ?_
          refine ev_fg7 ?_
          exact ih (a + 1) (by omega)
        · have e55 : rk (fR S) (sC S) 4 a = p := nI_inj (by have := rk_lt (f := (fR S)) (g := (sC S)) (n := 4) (a := a) (by omega); omega) (by omega) hc55
          refine ev_iload dX12_placed_58 rfl ?_
          refine ev_goto (tgt := 65) dX12_placed_60 (by decide) ?_
          refine ev_top (y := nI (fl_k (fR S) (sC S) 4 p (a + 1))) (by rw [fl_k, if_pos e55]) ?_
          refine ev_ist4 dX12_placed_65 (by decide) rfl ?_
          refine ev_iinc5 dX12_placed_67 (nI_inc _) (by decide) rfl ?_
          refine ev_goto (tgt := 6) dX12_placed_70 (by decide) ?_
          refine ev_fg6 ?_
          refine ev_fg7 ?_
          exact ih (a + 1) (by omega)
      have lp2 : ∀ (n8 o : Nat) , o + n8 = 4 → Ev G 7 0 mX12_placed 18 [some (.ref 115), some (.int (nI p)), some (.int (nI 4)), some (.int (bI false)), some (.int (nI (fl_k (fR S) (sC S) 4 p a))), some (.int (nI a)), some (.int (nI (ct (fun o => ahd (fR S) (sC S) o a) o))), some (.int (nI o))] [] w (zu_ G (.inl (some (.int (nI (fl_k (fR S) (sC S) 4 p 4))))) w) := by
        intro n8
        induction n8 with
        | zero =>
          intro o  hi8 
          refine ev_iload dX12_placed_18 rfl ?_
          refine ev_iload_n dX12_placed_20 rfl ?_
          refine ev_icmp_ge_t (tgt := 52) dX12_placed_21 (by decide) (nI_le (by omega) (by omega)) ?_
          obtain rfl : o = 4 := by omega
          exact hend
        | succ n8 ih2 =>
          intro o  hi8 
          refine ev_iload dX12_placed_18 rfl ?_
          refine ev_iload_n dX12_placed_20 rfl ?_
          refine ev_icmp_ge_f (tgt := 52) dX12_placed_21 (by decide) (nI_ge (by omega) (by omega)) ?_
          refine ev_iload dX12_placed_24 rfl ?_
          refine ev_aload_n dX12_placed_26 rfl ?_
          refine ev_iload dX12_placed_27 rfl ?_
          refine ev_iload dX12_placed_29 rfl ?_
          refine ev_iload_n dX12_placed_31 rfl ?_
          refine ev_callV kX12_207 co115 (qX12_isAhead_false hS0 hcn (by omega) (by omega)) dX12_placed_32 rfl (by decide) (by decide) rfl ?_
          refine ev_ifb_eq (tgt := 42) dX12_placed_35 (by decide) (fun hc35 => ?_) (fun hc35 => ?_)
          · refine ev_iconst dX12_placed_42 ic0 ?_
            refine ev_iadd dX12_placed_43 ?_
            refine ev_top (y := nI (ct (fun o => ahd (fR S) (sC S) o a) (o + 1))) (by rw [nI_add, ct_f (p := (fun o => ahd (fR S) (sC S) o a)) hc35]; rfl) ?_
            refine ev_ist6 dX12_placed_44 (by decide) rfl ?_
            refine ev_iinc7 dX12_placed_46 (nI_inc _) (by decide) rfl ?_
            refine ev_goto (tgt := 18) dX12_placed_49 (by decide) ?_
            exact ih2 (o + 1) (by omega)
          · refine ev_iconst dX12_placed_38 ic1 ?_
            refine ev_goto (tgt := 43) dX12_placed_39 (by decide) ?_
            refine ev_iadd dX12_placed_43 ?_
            refine ev_top (y := nI (ct (fun o => ahd (fR S) (sC S) o a) (o + 1))) (by rw [nI_add, ct_t (p := (fun o => ahd (fR S) (sC S) o a)) hc35]) ?_
            refine ev_ist6 dX12_placed_44 (by decide) rfl ?_
            refine ev_iinc7 dX12_placed_46 (nI_inc _) (by decide) rfl ?_
            refine ev_goto (tgt := 18) dX12_placed_49 (by decide) ?_
            exact ih2 (o + 1) (by omega)
      exact lp2 4 0 (Nat.zero_add _)
  exact lp 4 0 (Nat.zero_add _)
set_option maxRecDepth 4000 in
theorem qX12_can {G : GX} {w : WS} {S : ST} (hS : mR S w) {c : Nat} (hc : c < 64) {r : Int32} : Big G 5 0 mX12_can [.ref 115, .int (nI c), .int r] w (.inl (some (.int (bI (canB S r c))))) w := by
  refine big_of (by decide +kernel) (Nat.le_of_ble_eq_true rfl) ?_
  have hS0 := hS
  obtain ⟨⟨q0, q1, ⟨m0, m1, m2, m3, m4⟩, qr, qc, qv, qd⟩, hk1, hk2, hk3, hk4⟩ := hS
  have h4 := hk2.1
  have h5 := hk3.1
  show Ev G 5 0 mX12_can 0 [some (.ref 115), some (.int (nI c)), some (.int r)] [] w _
  refine ev_aload_n dX12_can_0 rfl ?_
  refine ev_iload_n dX12_can_1 rfl ?_
  refine ev_callV kX12_67 co115 (qX12_at hS0 hc) dX12_can_2 rfl (by decide) (by decide) rfl ?_
  refine ev_iload_n dX12_can_5 rfl ?_
  refine ev_icmp_eq (tgt := 22) dX12_can_6 (by decide) (fun hc6 => ?_) (fun hc6 => ?_)
  · refine ev_iconst dX12_can_22 ic0 ?_
    exact ev_iret dX12_can_23 rfl rfl (obF (decide_eq_false (by unfold shS; rw [if_pos hc6]; decide))) rfl
  · refine ev_aload_n dX12_can_9 rfl ?_
    refine ev_iload_n dX12_can_10 rfl ?_
    refine ev_iload_n dX12_can_11 rfl ?_
    refine ev_callV kX12_116 co115 (qX12_hinders hS0 hc) dX12_can_12 rfl (by decide) (by decide) rfl ?_
    refine ev_if_ne (tgt := 22) dX12_can_15 (by decide) (fun hc15 => ?_) (fun hc15 => ?_)
    · have e15 : ¬ hnd S c r = 0 := fun z => hc15 (by rw [z]; rfl)
      refine ev_iconst dX12_can_22 ic0 ?_
      exact ev_iret dX12_can_23 rfl rfl (obF (decide_eq_false (by rw [shS_h hc6]; exact e15))) rfl
    · have e15 : hnd S c r = 0 := nI_inj (by unfold hnd; (repeat' split) <;> decide) (by decide) hc15
      refine ev_iconst dX12_can_18 ic1 ?_
      refine ev_goto (tgt := 23) dX12_can_19 (by decide) ?_
      exact ev_iret dX12_can_23 rfl rfl (obT (decide_eq_true (by rw [shS_h hc6]; exact e15))) rfl
