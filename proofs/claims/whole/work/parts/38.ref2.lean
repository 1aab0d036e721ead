/-! the reference: rivers through a realm, sides, parts, folds, orders -/
theorem cR_any {S : ST} {i : Nat} {r : Int32} : decide (0 < cR S i r) = (List.range (rN S i + 1)).any (fun p => sO S (rP S i p) == r) := by
  unfold cR
  generalize rN S i + 1 = n
  induction n with
  | zero => rfl
  | succ n ih =>
    rw [any_s, ct_s, ← ih]
    by_cases h : (sO S (rP S i n) == r) = true
    · rw [if_pos h, h, Bool.or_true]; exact decide_eq_true (by omega)
    · rw [if_neg h]
      have : (sO S (rP S i n) == r) = false := by simpa using h
      rw [this, Bool.or_false, Nat.add_zero]
set_option maxRecDepth 4000 in
theorem qX12_riverMany {G : GX} {w : WS} {S : ST} (hS : mR S w) {r : Int32} : Big G 4 0 mX12_riverMany [.ref 115, .int r] w (.inl (some (.int (nI (thr S r))))) w := by
  refine big_of (by decide +kernel) (Nat.le_of_ble_eq_true rfl) ?_
  have hS0 := hS
  obtain ⟨⟨q0, q1, ⟨m0, m1, m2, m3, m4⟩, qr, qc, qv, qd⟩, hk1, hk2, hk3, hk4⟩ := hS
  have h4 := hk2.1
  have h5 := hk3.1
  show Ev G 4 0 mX12_riverMany 0 [some (.ref 115), some (.int r), none, none, none, none] [] w _
  refine ev_iconst dX12_riverMany_0 ic0 ?_
  refine ev_ist2 dX12_riverMany_1 (by decide) rfl ?_
  refine ev_iconst dX12_riverMany_2 ic0 ?_
  refine ev_ist3 dX12_riverMany_3 (by decide) rfl ?_
  have lp : ∀ (n9 i : Nat) , i + n9 = nR S → Ev G 4 0 mX12_riverMany 4 [some (.ref 115), some (.int r), some (.int (nI (ct (fun i => decide (0 < cR S i r)) i))), some (.int (nI i)), none, none] [] w (zu_ G (.inl (some (.int (nI (thr S r))))) w) := by
    intro n9
    induction n9 with
    | zero =>
      intro i  hi9 
      refine ev_iload_n dX12_riverMany_4 rfl ?_
      refine ev_aload_n dX12_riverMany_5 rfl ?_
      refine ev_getR fX12_9 dX12_riverMany_6 (by decide) sh115 rfl ?_
      refine ev_iconst dX12_riverMany_9 ic0 ?_
      refine ev_iaload dX12_riverMany_10 rfl (by omega) (by decide) sh116 ?_
      refine ev_top q0 ?_
      refine ev_icmp_ge_t (tgt := 82) dX12_riverMany_11 (by decide) (nI_le (by omega) (by omega)) ?_
      refine ev_iload_n dX12_riverMany_82 rfl ?_
      exact ev_iret dX12_riverMany_83 rfl rfl (by rw [show i = nR S by omega]; rfl) rfl
    | succ n9 ih =>
      intro i  hi9 
      refine ev_iload_n dX12_riverMany_4 rfl ?_
      refine ev_aload_n dX12_riverMany_5 rfl ?_
      refine ev_getR fX12_9 dX12_riverMany_6 (by decide) sh115 rfl ?_
      refine ev_iconst dX12_riverMany_9 ic0 ?_
      refine ev_iaload dX12_riverMany_10 rfl (by omega) (by decide) sh116 ?_
      refine ev_top q0 ?_
      refine ev_icmp_ge_f (tgt := 82) dX12_riverMany_11 (by decide) (nI_ge (by omega) (by omega)) ?_
      refine ev_iconst dX12_riverMany_14 ic0 ?_
      refine ev_ist4 dX12_riverMany_15 (by decide) rfl ?_
      refine ev_iconst dX12_riverMany_17 ic0 ?_
      refine ev_ist5 dX12_riverMany_18 (by decide) rfl ?_
      have hi : i < nR S := by omega
      obtain ⟨-, hr1, hr12, hkp, -⟩ := hk2.2 i hi
      have hend : Ev G 4 0 mX12_riverMany 63 [some (.ref 115), some (.int r), some (.int (nI (ct (fun i => decide (0 < cR S i r)) i))), some (.int (nI i)), some (.int (bI ((List.range (rN S i + 1)).any (fun p => sO S (rP S i p) == r)))), some (.int (nI (rN S i + 1)))] [] w (zu_ G (.inl (some (.int (nI (thr S r))))) w) := by
        refine ev_iload_n dX12_riverMany_63 rfl ?_
        refine ev_iload dX12_riverMany_64 rfl ?_
        refine ev_ifb_eq (tgt := 73) dX12_riverMany_66 (by decide) (fun hc66 => ?_) (fun hc66 => ?_)
        · have eh : decide (0 < cR S i r) = false := by rw [cR_any]; exact hc66
          refine ev_iconst dX12_riverMany_73 ic0 ?_
          refine ev_iadd dX12_riverMany_74 ?_
          refine ev_top (y := nI (ct (fun i => decide (0 < cR S i r)) (i + 1))) (by rw [nI_add, ct_f (p := (fun i => decide (0 < cR S i r))) eh]; rfl) ?_
          refine ev_ist2 dX12_riverMany_75 (by decide) rfl ?_
          refine ev_iinc3 dX12_riverMany_76 (nI_inc _) (by decide) rfl ?_
          refine ev_goto (tgt := 4) dX12_riverMany_79 (by decide) ?_
          refine ev_fg4 ?_
          refine ev_fg5 ?_
          exact ih (i + 1) (by omega)
        · have eh : decide (0 < cR S i r) = true := by rw [cR_any]; exact hc66
          refine ev_iconst dX12_riverMany_69 ic1 ?_
          refine ev_goto (tgt := 74) dX12_riverMany_70 (by decide) ?_
          refine ev_iadd dX12_riverMany_74 ?_
          refine ev_top (y := nI (ct (fun i => decide (0 < cR S i r)) (i + 1))) (by rw [nI_add, ct_t (p := (fun i => decide (0 < cR S i r))) eh]) ?_
          refine ev_ist2 dX12_riverMany_75 (by decide) rfl ?_
          refine ev_iinc3 dX12_riverMany_76 (nI_inc _) (by decide) rfl ?_
          refine ev_goto (tgt := 4) dX12_riverMany_79 (by decide) ?_
          refine ev_fg4 ?_
          refine ev_fg5 ?_
          exact ih (i + 1) (by omega)
      have lp2 : ∀ (n8 j : Nat) , j + n8 = rN S i + 1 → Ev G 4 0 mX12_riverMany 20 [some (.ref 115), some (.int r), some (.int (nI (ct (fun i => decide (0 < cR S i r)) i))), some (.int (nI i)), some (.int (bI ((List.range j).any (fun p => sO S (rP S i p) == r)))), some (.int (nI j))] [] w (zu_ G (.inl (some (.int (nI (thr S r))))) w) := by
        intro n8
        induction n8 with
        | zero =>
          intro j  hi8 
          refine ev_iload dX12_riverMany_20 rfl ?_
          refine ev_aload_n dX12_riverMany_22 rfl ?_
          refine ev_iload_n dX12_riverMany_23 rfl ?_
          refine ev_callV kX12_156 co115 (qX12_steps hS0 hi) dX12_riverMany_24 rfl (by decide) (by decide) rfl ?_
          refine ev_icmp_gt_t (tgt := 63) dX12_riverMany_27 (by decide) ((pk_lt' (by omega) (by omega)).mpr (by omega)) ?_
          obtain rfl : j = rN S i + 1 := by omega
          exact hend
        | succ n8 ih2 =>
          intro j  hi8 
          refine ev_iload dX12_riverMany_20 rfl ?_
          refine ev_aload_n dX12_riverMany_22 rfl ?_
          refine ev_iload_n dX12_riverMany_23 rfl ?_
          refine ev_callV kX12_156 co115 (qX12_steps hS0 hi) dX12_riverMany_24 rfl (by decide) (by decide) rfl ?_
          refine ev_icmp_gt_f (tgt := 63) dX12_riverMany_27 (by decide) (nI_gtf (by omega) (by omega)) ?_
          refine ev_iload dX12_riverMany_30 rfl ?_
          refine ev_ifb_ne (tgt := 50) dX12_riverMany_32 (by decide) (fun hc32 => ?_) (fun hc32 => ?_)
          · refine ev_iconst dX12_riverMany_50 ic1 ?_
            refine ev_goto (tgt := 55) dX12_riverMany_51 (by decide) ?_
            refine ev_top (y := bI ((List.range (j + 1)).any (fun p => sO S (rP S i p) == r))) (by rw [any_s, hc32]; rfl) ?_
            refine ev_ist4 dX12_riverMany_55 (by decide) rfl ?_
            refine ev_iinc5 dX12_riverMany_57 (nI_inc _) (by decide) rfl ?_
            refine ev_goto (tgt := 20) dX12_riverMany_60 (by decide) ?_
            exact ih2 (j + 1) (by omega)
          · refine ev_aload_n dX12_riverMany_35 rfl ?_
            refine ev_aload_n dX12_riverMany_36 rfl ?_
            refine ev_iload_n dX12_riverMany_37 rfl ?_
            refine ev_iload dX12_riverMany_38 rfl ?_
            refine ev_callV kX12_159 co115 (qX12_cellOf hS0 hi (by omega)) dX12_riverMany_40 rfl (by decide) (by decide) rfl ?_
            refine ev_callV kX12_67 co115 (qX12_at hS0 (hkp _ (by omega))) dX12_riverMany_43 rfl (by decide) (by decide) rfl ?_
            refine ev_iload_n dX12_riverMany_46 rfl ?_
            refine ev_icmp_ne (tgt := 54) dX12_riverMany_47 (by decide) (fun hc47 => ?_) (fun hc47 => ?_)
            · have eh : (sO S (rP S i j) == r) = false := beq_eq_false_iff_ne.mpr hc47
              refine ev_iconst dX12_riverMany_54 ic0 ?_
              refine ev_top (y := bI ((List.range (j + 1)).any (fun p => sO S (rP S i p) == r))) (by rw [any_s, hc32, eh]; rfl) ?_
              refine ev_ist4 dX12_riverMany_55 (by decide) rfl ?_
              refine ev_iinc5 dX12_riverMany_57 (nI_inc _) (by decide) rfl ?_
              refine ev_goto (tgt := 20) dX12_riverMany_60 (by decide) ?_
              exact ih2 (j + 1) (by omega)
            · have eh : (sO S (rP S i j) == r) = true := beq_iff_eq.mpr hc47
              refine ev_iconst dX12_riverMany_50 ic1 ?_
              refine ev_goto (tgt := 55) dX12_riverMany_51 (by decide) ?_
              refine ev_top (y := bI ((List.range (j + 1)).any (fun p => sO S (rP S i p) == r))) (by rw [any_s, hc32, eh]; rfl) ?_
              refine ev_ist4 dX12_riverMany_55 (by decide) rfl ?_
              refine ev_iinc5 dX12_riverMany_57 (nI_inc _) (by decide) rfl ?_
              refine ev_goto (tgt := 20) dX12_riverMany_60 (by decide) ?_
              exact ih2 (j + 1) (by omega)
      exact lp2 (rN S i + 1) 0 (Nat.zero_add _)
  exact lp (nR S) 0 (Nat.zero_add _)
def eS (S : ST) (r n : Int32) (c k : Nat) : Nat := sm (fun d => eW S r n d c) k
theorem eS_4 (S : ST) (r n : Int32) (c : Nat) : eS S r n c 4 = eW S r n 0 c + eW S r n 1 c + eW S r n 2 c + eW S r n 3 c := by
  show 0 + eW S r n 0 c + eW S r n 1 c + eW S r n 2 c + eW S r n 3 c = _
  omega
theorem eS_0 {S : ST} {r n : Int32} {c k : Nat} (h : ¬ sO S c = r) : eS S r n c k = 0 := sm_0 (fun d _ => by unfold eW; rw [if_neg (fun q => h q.1)])
theorem eW_le (S : ST) (r n : Int32) (d c : Nat) : eW S r n d c ≤ 1 := by unfold eW; split <;> omega
set_option maxRecDepth 4000 in
theorem qX12_pairs {G : GX} {w : WS} {S : ST} (hS : mR S w) {r n : Int32} (hn : n ≠ -1) : Big G 3 0 mX12_pairs [.ref 115, .int r, .int n] w (.inl (some (.int (nI (pr4 S r n))))) w := by
  refine big_of (by decide +kernel) (Nat.le_of_ble_eq_true rfl) ?_
  have hS0 := hS
  obtain ⟨⟨q0, q1, ⟨m0, m1, m2, m3, m4⟩, qr, qc, qv, qd⟩, hk1, hk2, hk3, hk4⟩ := hS
  have h4 := hk2.1
  have h5 := hk3.1
  show Ev G 3 0 mX12_pairs 0 [some (.ref 115), some (.int r), some (.int n), none, none, none] [] w _
  refine ev_iconst dX12_pairs_0 ic0 ?_
  refine ev_ist3 dX12_pairs_1 (by decide) rfl ?_
  refine ev_iconst dX12_pairs_2 ic0 ?_
  refine ev_ist4 dX12_pairs_3 (by decide) rfl ?_
  have lp : ∀ (n9 c : Nat) , c + n9 = 64 → Ev G 3 0 mX12_pairs 5 [some (.ref 115), some (.int r), some (.int n), some (.int (nI (sm (fun c => eS S r n c 4) c))), some (.int (nI c)), none] [] w (zu_ G (.inl (some (.int (nI (pr4 S r n))))) w) := by
    intro n9
    induction n9 with
    | zero =>
      intro c  hi9 
      refine ev_iload dX12_pairs_5 rfl ?_
      refine ev_bipush (v := nI 64) dX12_pairs_7 (by decide) ?_
      refine ev_icmp_ge_t (tgt := 76) dX12_pairs_9 (by decide) (nI_le (by omega) (by omega)) ?_
      refine ev_iload_n dX12_pairs_76 rfl ?_
      exact ev_iret dX12_pairs_77 rfl rfl (by rw [show c = 64 by omega]; unfold pr4; rw [sm_congr (fun c _ => eS_4 S r n c)]) rfl
    | succ n9 ih =>
      intro c  hi9 
      refine ev_iload dX12_pairs_5 rfl ?_
      refine ev_bipush (v := nI 64) dX12_pairs_7 (by decide) ?_
      refine ev_icmp_ge_f (tgt := 76) dX12_pairs_9 (by decide) (nI_ge (by omega) (by decide)) ?_
      refine ev_iconst dX12_pairs_12 ic0 ?_
      refine ev_ist5 dX12_pairs_13 (by decide) rfl ?_
      have hinc : Ev G 3 0 mX12_pairs 5 [some (.ref 115), some (.int r), some (.int n), some (.int (nI (sm (fun c => eS S r n c 4) (c + 1)))), some (.int (nI (c + 1))), none] [] w (zu_ G (.inl (some (.int (nI (pr4 S r n))))) w) → Ev G 3 0 mX12_pairs 70 [some (.ref 115), some (.int r), some (.int n), some (.int (nI (sm (fun c => eS S r n c 4) (c + 1)))), some (.int (nI c)), none] [] w (zu_ G (.inl (some (.int (nI (pr4 S r n))))) w) := fun K => by
        refine ev_iinc4 dX12_pairs_70 (nI_inc _) (by decide) rfl ?_
        refine ev_goto (tgt := 5) dX12_pairs_73 (by decide) ?_
        exact K
      have hend : Ev G 3 0 mX12_pairs 70 [some (.ref 115), some (.int r), some (.int n), some (.int (nI (sm (fun c => eS S r n c 4) c + eS S r n c 4))), some (.int (nI c)), some (.int (nI 4))] [] w (zu_ G (.inl (some (.int (nI (pr4 S r n))))) w) := by
        refine ev_fg5 ?_
        exact hinc (ih (c + 1) (by omega))
      have lp2 : ∀ (n8 d : Nat) , d + n8 = 4 → Ev G 3 0 mX12_pairs 15 [some (.ref 115), some (.int r), some (.int n), some (.int (nI (sm (fun c => eS S r n c 4) c + eS S r n c d))), some (.int (nI c)), some (.int (nI d))] [] w (zu_ G (.inl (some (.int (nI (pr4 S r n))))) w) := by
        intro n8
        induction n8 with
        | zero =>
          intro d  hi8 
          refine ev_iload dX12_pairs_15 rfl ?_
          refine ev_iconst dX12_pairs_17 ic4 ?_
          refine ev_icmp_ge_t (tgt := 70) dX12_pairs_18 (by decide) (nI_le (by omega) (by omega)) ?_
          obtain rfl : d = 4 := by omega
          exact hend
        | succ n8 ih2 =>
          intro d  hi8 
          refine ev_iload dX12_pairs_15 rfl ?_
          refine ev_iconst dX12_pairs_17 ic4 ?_
          refine ev_icmp_ge_f (tgt := 70) dX12_pairs_18 (by decide) (nI_ge (by omega) (by decide)) ?_
          refine ev_aload_n dX12_pairs_21 rfl ?_
          refine ev_iload dX12_pairs_22 rfl ?_
          refine ev_callV kX12_67 co115 (qX12_at hS0 (by omega)) dX12_pairs_24 rfl (by decide) (by decide) rfl ?_
          refine ev_iload_n dX12_pairs_27 rfl ?_
          refine ev_icmp_ne (tgt := 70) dX12_pairs_28 (by decide) (fun hc28 => ?_) (fun hc28 => ?_)
          · refine ev_fg5 ?_
            have q := ih (c + 1) (by omega)
            rw [show sm (fun c => eS S r n c 4) c + eS S r n c d = sm (fun c => eS S r n c 4) (c + 1) by rw [sm_s, eS_0 hc28, eS_0 hc28]]
            refine hinc ?_
            exact q
          · have ob : ∀ k, nb c d = some k → k < 2 ^ 31 := fun k hk => by have := nb_lt (c := c) (by omega) hk; omega
            refine ev_iload_n dX12_pairs_31 rfl ?_
            refine ev_iload dX12_pairs_32 rfl ?_
            refine ev_iload dX12_pairs_34 rfl ?_
            refine ev_callS kX12_103 (qX12_beside (by omega) (by omega)) dX12_pairs_36 rfl (by decide) (by decide) rfl ?_
            refine ev_if_lt (tgt := 61) dX12_pairs_39 (by decide) (fun hc39 => ?_) (fun hc39 => ?_)
            · have e39 : nb c d = none := (oI_lt ob).mp hc39
              have ew : eW S r n d c = 0 := eW_0 hn e39
              refine ev_iconst dX12_pairs_61 ic0 ?_
              refine ev_iadd dX12_pairs_62 ?_
              refine ev_top (y := nI (sm (fun c => eS S r n c 4) c + eS S r n c (d + 1))) (by rw [nI_add, show eS S r n c (d + 1) = eS S r n c d + eW S r n d c from rfl, show eW S r n d c = 0 from ew, Nat.add_assoc]; first | done | rfl) ?_
              refine ev_ist3 dX12_pairs_63 (by decide) rfl ?_
              refine ev_iinc5 dX12_pairs_64 (nI_inc _) (by decide) rfl ?_
              refine ev_goto (tgt := 15) dX12_pairs_67 (by decide) ?_
              exact ih2 (d + 1) (by omega)
            · obtain ⟨y, e39⟩ : ∃ y, nb c d = some y := by
                cases e : nb c d with
                | none => exact absurd ((oI_lt ob).mpr e) hc39
                | some y => exact ⟨y, rfl⟩
              have hy := nb_lt (c := c) (by omega) e39
              refine ev_aload_n dX12_pairs_42 rfl ?_
              refine ev_iload dX12_pairs_43 rfl ?_
              refine ev_iload dX12_pairs_45 rfl ?_
              refine ev_callS kX12_103 (qX12_beside (by omega) (by omega)) dX12_pairs_47 rfl (by decide) (by decide) rfl ?_
              rw [e39]
              refine ev_callV kX12_67 co115 (qX12_at hS0 hy) dX12_pairs_50 rfl (by decide) (by decide) rfl ?_
              refine ev_iload_n dX12_pairs_53 rfl ?_
              refine ev_icmp_ne (tgt := 61) dX12_pairs_54 (by decide) (fun hc54 => ?_) (fun hc54 => ?_)
              · have ew : eW S r n d c = 0 := by unfold eW; rw [e39]; exact if_neg (fun q => hc54 q.2)
                refine ev_iconst dX12_pairs_61 ic0 ?_
                refine ev_iadd dX12_pairs_62 ?_
                refine ev_top (y := nI (sm (fun c => eS S r n c 4) c + eS S r n c (d + 1))) (by rw [nI_add, show eS S r n c (d + 1) = eS S r n c d + eW S r n d c from rfl, show eW S r n d c = 0 from ew, Nat.add_assoc]; first | done | rfl) ?_
                refine ev_ist3 dX12_pairs_63 (by decide) rfl ?_
                refine ev_iinc5 dX12_pairs_64 (nI_inc _) (by decide) rfl ?_
                refine ev_goto (tgt := 15) dX12_pairs_67 (by decide) ?_
                exact ih2 (d + 1) (by omega)
              · have ew : eW S r n d c = 1 := by unfold eW; rw [e39]; exact if_pos ⟨hc28, hc54⟩
                refine ev_iconst dX12_pairs_57 ic1 ?_
                refine ev_goto (tgt := 62) dX12_pairs_58 (by decide) ?_
                refine ev_iadd dX12_pairs_62 ?_
                refine ev_top (y := nI (sm (fun c => eS S r n c 4) c + eS S r n c (d + 1))) (by rw [nI_add, show eS S r n c (d + 1) = eS S r n c d + eW S r n d c from rfl, show eW S r n d c = 1 from ew, Nat.add_assoc]; first | done | rfl) ?_
                refine ev_ist3 dX12_pairs_63 (by decide) rfl ?_
                refine ev_iinc5 dX12_pairs_64 (nI_inc _) (by decide) rfl ?_
                refine ev_goto (tgt := 15) dX12_pairs_67 (by decide) ?_
                exact ih2 (d + 1) (by omega)
      exact lp2 4 0 rfl
  exact lp 64 0 rfl
/-! going from cell to cell -/
def ubn (S : ST) (c : Nat) (b : Nat → Int32) : Nat := ct (fun x => decide (sO S x = sO S c) && b x == 0) 64
/-- what going from c does: more marks, all of them reached, their sides marked -/
def pGo (S : ST) (c : Nat) (w : WS) : OT → WS → Prop := fun o w2 => o = .inl none ∧ frG [(121, 121)] w w2 ∧ (∀ x, x < 64 → w2.1 121 x = 0 ∨ w2.1 121 x = 1) ∧ (∀ x, w.1 121 x ≠ 0 → w2.1 121 x ≠ 0) ∧ w2.1 121 c ≠ 0 ∧ (∀ x, x < 64 → w2.1 121 x ≠ 0 → w.1 121 x ≠ 0 ∨ rch S c x) ∧ (∀ x y, x < 64 → w2.1 121 x ≠ 0 → w.1 121 x = 0 → eg S x y → w2.1 121 y ≠ 0)
theorem ct_lt {p q : Nat → Bool} {n y : Nat} (hy : y < n) (hp : p y = false) (hq : q y = true) (hl : ∀ x, x < n → p x = true → q x = true) : ct p n < ct q n := by
  induction n with
  | zero => exact absurd hy (Nat.not_lt_zero _)
  | succ n ih =>
    have hle : ∀ m, m ≤ n + 1 → ct p m ≤ ct q m := by
      intro m
      induction m with
      | zero => intro _; exact Nat.le_refl _
      | succ m ihm =>
        intro hm
        have := ihm (by omega)
        rw [ct_s, ct_s]
        by_cases h : p m = true
        · rw [if_pos h, if_pos (hl m (by omega) h)]; omega
        · rw [if_neg h]; omega
    rw [ct_s, ct_s]
    by_cases e : y = n
    · subst e
      have := hle y (by omega)
      rw [hp, hq]
      simp
      omega
    · have := ih (by omega) (fun x hx => hl x (by omega))
      by_cases h : p n = true
      · rw [if_pos h, if_pos (hl n (by omega) h)]; omega
      · rw [if_neg h]; omega
theorem bz {v : Int32} (h : v = 0 ∨ v = 1) : vp_nar .boolean v = v := by
  rcases h with h | h <;> rw [h] <;> decide
set_option maxRecDepth 4000 in
theorem qX12_goes0 {G : GX} {S : ST} (k : Nat) (IH : ∀ k2, k2 < k → ∀ {w : WS}, mR S w → (∀ x, x < 64 → w.1 121 x = 0 ∨ w.1 121 x = 1) → ∀ {c : Nat}, c < 64 → w.1 121 c = 0 → ubn S c (w.1 121) ≤ k2 → ∃ o w2, pGo S c w o w2 ∧ Big G (k2 + 3) 0 mX12_goes [.ref 115, .int (nI c)] w o w2) {w : WS} (hS0 : mR S w) (hw01 : ∀ x, x < 64 → w.1 121 x = 0 ∨ w.1 121 x = 1) {c : Nat} (hc : c < 64) (h0 : w.1 121 c = 0) (hk : ubn S c (w.1 121) ≤ k) : ∃ o w2, (pGo S c w o w2) ∧ Big G (k + 3) 0 mX12_goes [.ref 115, .int (nI c)] w o w2 := by
  refine bx_of (P := pGo S c w) (by decide +kernel) (Nat.le_of_ble_eq_true rfl) ?_
  show Ex G (k + 3) 0 mX12_goes 0 [some (.ref 115), some (.int (nI c)), none, none] [] w _
  refine ex_s (fun _ => ev_aload_n dX12_goes_0 rfl) ?_
  refine ex_s (fun _ => ev_getR fX12_25 dX12_goes_1 (by decide) sh115 rfl) ?_
  refine ex_s (fun _ => ev_iload_n dX12_goes_4 rfl) ?_
  refine ex_s (fun _ => ev_iconst dX12_goes_5 ic1) ?_
  refine ex_s (fun _ => ev_bastore dX12_goes_6 rfl (by omega) (bz (Or.inr rfl) : vp_nar .boolean (nI 1) = 1) (by decide) sh121) ?_
  refine ex_s (fun _ => ev_iconst dX12_goes_7 ic0) ?_
  refine ex_s (fun _ => ev_ist2 dX12_goes_8 (by decide) rfl) ?_
  have lp : ∀ (n9 d : Nat) (x : WS), d + n9 = 4 → frG [(121, 121)] w x → (∀ y, y < 64 → x.1 121 y = 0 ∨ x.1 121 y = 1) → (∀ y, w.1 121 y ≠ 0 → x.1 121 y ≠ 0) → x.1 121 c ≠ 0 → (∀ y, y < 64 → x.1 121 y ≠ 0 → w.1 121 y ≠ 0 ∨ rch S c y) → (∀ y z, y < 64 → y ≠ c → x.1 121 y ≠ 0 → w.1 121 y = 0 → eg S y z → x.1 121 z ≠ 0) → (∀ e, e < d → ∀ z, nb c e = some z → sO S c = sO S z → x.1 121 z ≠ 0) → Ex G (k + 3) 0 mX12_goes 9 [some (.ref 115), some (.int (nI c)), some (.int (nI d)), none] [] x (pGo S c w) := by
    intro n9
    induction n9 with
    | zero =>
      intro d x hi9 hf h01 hm hcc hr hcl hd
      refine ex_s (fun _ => ev_iload_n dX12_goes_9 rfl) ?_
      refine ex_s (fun _ => ev_iconst dX12_goes_10 ic4) ?_
      refine ex_s (fun _ => ev_icmp_ge_t (tgt := 57) dX12_goes_11 (by decide) (nI_le (by omega) (by omega))) ?_
      exact ⟨_, _, (by exact ⟨rfl, hf, h01, hm, hcc, hr, fun y z hy h1 h2 he => by
                  by_cases q : y = c
                  · subst q
                    obtain ⟨-, g1, e, g2, g3⟩ := he
                    exact hd e (by omega) z g3 g1
                  · exact hcl y z hy q h1 h2 he⟩), ev_vret dX12_goes_57 rfl rfl rfl⟩
    | succ n9 ih =>
      intro d x hi9 hf h01 hm hcc hr hcl hd
      refine ex_s (fun _ => ev_iload_n dX12_goes_9 rfl) ?_
      refine ex_s (fun _ => ev_iconst dX12_goes_10 ic4) ?_
      refine ex_s (fun _ => ev_icmp_ge_f (tgt := 57) dX12_goes_11 (by decide) (nI_ge (by omega) (by decide))) ?_
      refine ex_s (fun _ => ev_iload_n dX12_goes_14 rfl) ?_
      refine ex_s (fun _ => ev_iload_n dX12_goes_15 rfl) ?_
      have ob : ∀ k, nb c d = some k → k < 2 ^ 31 := fun k hk => by have := nb_lt hc hk; omega
      refine ex_s (fun _ => ev_callS kX12_103 (qX12_beside hc (by omega)) dX12_goes_16 rfl (by omega) (by decide) rfl) ?_
      refine ex_s (fun _ => ev_ist3 dX12_goes_19 (by decide) rfl) ?_
      refine ex_s (fun _ => ev_iload_n dX12_goes_20 rfl) ?_
      refine ex_bp (fun _ => ev_if_lt (tgt := 51) dX12_goes_21 (by decide)) (fun hc21 => ?_) (fun hc21 => ?_)
      · have e21 : nb c d = none := (oI_lt ob).mp hc21
        refine ex_s (fun _ => ev_iinc2 dX12_goes_51 (nI_inc _) (by decide) rfl) ?_
        refine ex_s (fun _ => ev_goto (tgt := 9) dX12_goes_54 (by decide)) ?_
        refine ex_s (fun _ => ev_fg3) ?_
        exact ih (d + 1) x (by omega) hf h01 hm hcc hr hcl (fun e he z hz ho => by
          by_cases q : e = d
          · subst q; rw [e21] at hz; cases hz
          · exact hd e (by omega) z hz ho)
      · obtain ⟨y, e21⟩ : ∃ y, nb c d = some y := by
          cases e : nb c d with
          | none => exact absurd ((oI_lt ob).mpr e) hc21
          | some y => exact ⟨y, rfl⟩
        have hy := nb_lt hc e21
        rw [e21]
        have hSx := mRe hS0 (frG_at hf (by decide) : x.1 116 = w.1 116)
        refine ex_s (fun _ => ev_aload_n dX12_goes_24 rfl) ?_
        refine ex_s (fun _ => ev_getR fX12_25 dX12_goes_25 (by decide) sh115 rfl) ?_
        refine ex_s (fun _ => ev_iload_n dX12_goes_28 rfl) ?_
        refine ex_s (fun _ => ev_baload dX12_goes_29 rfl (by omega) (by decide) sh121) ?_
        refine ex_bn (fun _ => ev_if_ne (tgt := 51) dX12_goes_30 (by decide)) (fun hc30 => ?_) (fun hc30 => ?_)
        · refine ex_s (fun _ => ev_iinc2 dX12_goes_51 (nI_inc _) (by decide) rfl) ?_
          refine ex_s (fun _ => ev_goto (tgt := 9) dX12_goes_54 (by decide)) ?_
          refine ex_s (fun _ => ev_fg3) ?_
          exact ih (d + 1) x (by omega) hf h01 hm hcc hr hcl (fun e he z hz ho => by
            by_cases q : e = d
            · subst q; rw [e21] at hz; cases hz; exact hc30
            · exact hd e (by omega) z hz ho)
        · refine ex_s (fun _ => ev_aload_n dX12_goes_33 rfl) ?_
          refine ex_s (fun _ => ev_iload_n dX12_goes_34 rfl) ?_
          refine ex_s (fun _ => ev_callV kX12_67 co115 (qX12_at hSx hy) dX12_goes_35 rfl (by omega) (by decide) rfl) ?_
          refine ex_s (fun _ => ev_aload_n dX12_goes_38 rfl) ?_
          refine ex_s (fun _ => ev_iload_n dX12_goes_39 rfl) ?_
          refine ex_s (fun _ => ev_callV kX12_67 co115 (qX12_at hSx hc) dX12_goes_40 rfl (by omega) (by decide) rfl) ?_
          refine ex_bn (fun _ => ev_icmp_ne (tgt := 51) dX12_goes_43 (by decide)) (fun hc43 => ?_) (fun hc43 => ?_)
          · refine ex_s (fun _ => ev_iinc2 dX12_goes_51 (nI_inc _) (by decide) rfl) ?_
            refine ex_s (fun _ => ev_goto (tgt := 9) dX12_goes_54 (by decide)) ?_
            refine ex_s (fun _ => ev_fg3) ?_
            exact ih (d + 1) x (by omega) hf h01 hm hcc hr hcl (fun e he z hz ho => by
              by_cases q : e = d
              · subst q; rw [e21] at hz; cases hz; exact absurd ho.symm hc43
              · exact hd e (by omega) z hz ho)
          · refine ex_s (fun _ => ev_aload_n dX12_goes_46 rfl) ?_
            refine ex_s (fun _ => ev_iload_n dX12_goes_47 rfl) ?_
            have heg : eg S c y := ⟨hc, hc43.symm, d, by omega, e21⟩
            have hlt : ubn S y (x.1 121) < k := by
              refine Nat.lt_of_lt_of_le (ct_lt (q := fun z => decide (sO S z = sO S c) && w.1 121 z == 0) hc ?_ ?_ ?_) hk
              · have : (x.1 121 c == 0) = false := beq_eq_false_iff_ne.mpr hcc
                simp only [this, Bool.and_false]
              · rw [h0]; simp
              · intro z hz hz2
                rw [Bool.and_eq_true] at hz2 ⊢
                refine ⟨by rw [decide_eq_true_iff] at hz2 ⊢; rw [hz2.1, hc43], ?_⟩
                rw [beq_iff_eq]
                exact Decidable.byContradiction (fun q => hm z q (beq_iff_eq.mp hz2.2))
            obtain ⟨_, w3, ⟨rfl, j1, j2, j3, j4, j5, j6⟩, hB3⟩ := IH (k - 1) (by omega) hSx h01 hy hc30 (by omega)
            refine ex_s (fun _ => ev_callV kX12_183 co115 hB3 dX12_goes_48 rfl (by omega) (by decide) rfl) ?_
            refine ex_s (fun _ => ev_iinc2 dX12_goes_51 (nI_inc _) (by decide) rfl) ?_
            refine ex_s (fun _ => ev_goto (tgt := 9) dX12_goes_54 (by decide)) ?_
            refine ex_s (fun _ => ev_fg3) ?_
            refine ih (d + 1) w3 (by omega) (frG_tr hf j1) j2 (fun z hz => j3 z (hm z hz)) (j3 c hcc) (fun z hz h => ?_) (fun z u hz hzc h1 h2 he => ?_) (fun e he z hz ho => ?_)
            · rcases j5 z hz h with q | q
              · exact hr z hz q
              · exact Or.inr (rch_tr (rch_st rch_rf heg) q)
            · by_cases q : x.1 121 z = 0
              · exact j6 z u hz h1 q he
              · exact j3 u (hcl z u hz hzc q h2 he)
            · by_cases q : e = d
              · subst q
                rw [e21] at hz
                cases hz
                exact j4
              · exact j3 z (hd e (by omega) z hz ho)
  refine lp 4 0 (cs_ w 121 (upd (w.1 121) c 1)) rfl (frG_cs frG_rf (by decide) _) (fun y hy => ?_) (fun y hy => ?_) ?_ (fun y hy h => ?_) (fun y z hy hyc h1 h2 => ?_) (fun e he => absurd he (Nat.not_lt_zero _))
  · show upd (w.1 121) c 1 y = 0 ∨ upd (w.1 121) c 1 y = 1
    unfold upd
    split
    · exact Or.inr rfl
    · exact hw01 y hy
  · show upd (w.1 121) c 1 y ≠ 0
    unfold upd
    split
    · decide
    · exact hy
  · show upd (w.1 121) c 1 c ≠ 0
    unfold upd
    rw [if_pos rfl]
    decide
  · by_cases q : y = c
    · subst q; exact Or.inr rch_rf
    · left
      have h : upd (w.1 121) c 1 y ≠ 0 := h
      unfold upd at h
      rw [if_neg q] at h
      exact h
  · exfalso
    have h1 : upd (w.1 121) c 1 y ≠ 0 := h1
    unfold upd at h1
    rw [if_neg hyc] at h1
    exact h1 h2
theorem qX12_goes {G : GX} {S : ST} (k : Nat) : ∀ {w : WS}, mR S w → (∀ x, x < 64 → w.1 121 x = 0 ∨ w.1 121 x = 1) → ∀ {c : Nat}, c < 64 → w.1 121 c = 0 → ubn S c (w.1 121) ≤ k → ∃ o w2, pGo S c w o w2 ∧ Big G (k + 3) 0 mX12_goes [.ref 115, .int (nI c)] w o w2 := by
  induction k using Nat.strongRecOn with
  | _ k ih => exact fun {w} h1 h2 {c} h3 h4 h5 => qX12_goes0 k (fun k2 hk => ih k2 hk) h1 h2 h3 h4 h5
/-- one part more -/
theorem go_vis {S : ST} {r : Int32} {k : Nat} {w w3 : WS} (hk : k < 64) (ho : sO S k = r) (hv : ∀ y, y < 64 → (w.1 121 y ≠ 0 ↔ vis S r k y)) (h : pGo S k w (.inl none) w3) : ∀ y, y < 64 → (w3.1 121 y ≠ 0 ↔ vis S r (k + 1) y) := by
  obtain ⟨-, g1, g2, g3, g4, g5, g6⟩ := h
  intro y hy
  rw [vis_s1 ho]
  constructor
  · intro q
    rcases g5 y hy q with z | z
    · exact Or.inl ((hv y hy).mp z)
    · exact Or.inr z
  · rintro (q | q)
    · exact g3 y ((hv y hy).mpr q)
    · refine (rch_in (P := fun y => y < 64 ∧ w3.1 121 y ≠ 0) q ⟨hk, g4⟩ (fun z u _ hz e => ⟨eg_lt e, ?_⟩)).2
      by_cases c0 : w.1 121 z = 0
      · exact g6 z u hz.1 hz.2 c0 e
      · exact g3 u ((hv u (eg_lt e)).mpr (vis_clo z u ((hv z hz.1).mp c0) e))
