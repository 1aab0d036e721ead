/-! the reference: rivers and commands read -/
def r2 (n : Nat) (t : Nat → Nat) (p : Nat) : Nat × Nat := sg n t 58 58 (nu n t (0, p))
def rK (n : Nat) (t : Nat → Nat) (p : Nat) : Nat := if stE n t (r2 n t p) = true then stN n t 12 (r2 n t p).2 else 0
def r4 (n : Nat) (t : Nat → Nat) (p : Nat) : Nat × Nat := (if stE n t (r2 n t p) = true then 0 else 1, (r2 n t p).2 + rK n t p)
def rr5 (n : Nat) (t : Nat → Nat) (p : Nat) : Nat × Nat := sg n t 61 61 (r4 n t p)
def fRv (n : Nat) (t : Nat → Nat) (p j : Nat) (f : Nat → Int32) : Nat → Int32 := upd (upd (upd (upd f (j + 1) (nI (nv n t (0, p)))) (j + 2) (nI (r2 n t p).2)) (j + 3) (nI (rK n t p))) (j + 4) (nI (nv n t (rr5 n t p)))
theorem rK_le {n : Nat} {t : Nat → Nat} {p : Nat} (h : (r2 n t p).2 ≤ n) : (r2 n t p).2 + rK n t p ≤ n ∧ rK n t p ≤ 12 := by
  unfold rK
  split
  · have := stN_le (f := 12) (t := t) h
    omega
  · omega
theorem r4_ok {n : Nat} {t : Nat → Nat} {p : Nat} (h : (r2 n t p).2 ≤ n) : (r4 n t p).1 ≤ 1 ∧ (r4 n t p).2 ≤ n := by
  refine ⟨?_, (rK_le h).1⟩
  unfold r4
  dsimp only
  split <;> omega
theorem cI_n {c : Nat} (hc : c < 128) (h1 : c ≠ 112) (h2 : c ≠ 115) (h3 : c ≠ 109) (h4 : c ≠ 114) (h5 : c ≠ 107) (h6 : c ≠ 100) (h7 : c ≠ 102) : cI_ c = none := by
  have q := psm_ix ⟨c, hc⟩
  simp only [] at q
  cases e : cI_ c with
  | none => rfl
  | some k =>
    rw [e] at q
    simp [h1, h2, h3, h4, h5, h6, h7] at q
theorem cI_y {c : Nat} (hc : c < 128) (h : c = 112 ∨ c = 115 ∨ c = 109 ∨ c = 114 ∨ c = 107 ∨ c = 100 ∨ c = 102) : ∃ k, cI_ c = some k ∧ k < 7 := by
  have q := psm_ix ⟨c, hc⟩
  cases e : cI_ c with
  | none =>
    simp only [e] at q
    rcases h with h | h | h | h | h | h | h <;> (subst h; cases q)
  | some k =>
    refine ⟨k, rfl, ?_⟩
    have := List.mem_of_find?_eq_some e
    exact List.mem_range.mp this
def pRR (w : WS) (n : Nat) (t : Nat → Nat) (p m j : Nat) (f : Nat → Int32) : OT → WS → Prop := fun o w2 => o = .inl none ∧ RD w (nu n t (rr5 n t p)) m (fRv n t p j f) w2
set_option maxRecDepth 4000 in
theorem qX12_readRiver {G : GX} {w x : WS} {n : Nat} {t : Nat → Nat} (hi : inM n t w) {p : Nat} {m : Nat} {f : Nat → Int32} (h : RD w (0, p) m f x) (hp : p ≤ n) {j : Nat} (hj : j + 4 < 300) : ∃ o w2, (pRR w n t p m j f o w2) ∧ Big G 8 0 mX12_readRiver [.ref 115, .int (nI j)] x o w2 := by
  have hn6 := hi.2.1
  refine bx_of (P := pRR w n t p m j f) (by decide +kernel) (Nat.le_of_ble_eq_true rfl) ?_
  show Ex G 8 0 mX12_readRiver 0 [some (.ref 115), some (.int (nI j)), none, none] [] x _
  refine ex_s (fun _ => ev_aload_n dX12_readRiver_0 rfl) ?_
  refine ex_s (fun _ => ev_getR fX12_40 dX12_readRiver_1 (by decide) sh115 rfl) ?_
  refine ex_s (fun _ => ev_iload_n dX12_readRiver_4 rfl) ?_
  refine ex_s (fun _ => ev_iconst dX12_readRiver_5 ic1) ?_
  refine ex_s (fun _ => ev_iadd dX12_readRiver_6) ?_
  first | refine ex_s (fun _ => ev_top (nI_add _ _)) ?_ | skip
  refine ex_s (fun _ => ev_aload_n dX12_readRiver_7 rfl) ?_
  obtain ⟨_, x1, ⟨rfl, h1⟩, hB1⟩ := qX12_number (G := G) hi h (Nat.zero_le _) hp
  have k1 := nu_ok (n := n) (t := t) (s := (0, p)) hp
  refine ex_s (fun _ => ev_callV kX12_244 co115 hB1 dX12_readRiver_8 rfl (by decide) (by decide) rfl) ?_
  refine ex_s (fun _ => ev_iastore dX12_readRiver_11 rfl (by omega) rfl (by decide) sh124) ?_
  refine ex_s (fun _ => ev_aload_n dX12_readRiver_12 rfl) ?_
  refine ex_s (fun _ => ev_bipush (v := nI 58) dX12_readRiver_13 (by decide)) ?_
  refine ex_s (fun _ => ev_bipush (v := nI 58) dX12_readRiver_15 (by decide)) ?_
  have h1b := RD_124 h1 (j + 1) (nI (nv n t (0, p)))
  obtain ⟨_, x2, ⟨rfl, h2⟩, hB2⟩ := qX12_sign (G := G) hi h1b k1.1 k1.2 (a := 58) (b := 58) (by decide) (by decide)
  have k2 : (r2 n t p).1 ≤ 1 ∧ (r2 n t p).2 ≤ n := sg_ok k1.2
  have h2 : RD w (r2 n t p) m _ x2 := h2
  refine ex_s (fun _ => ev_callV kX12_240 co115 hB2 dX12_readRiver_17 rfl (by decide) (by decide) rfl) ?_
  refine ex_s (fun _ => ev_ist2 dX12_readRiver_20 (by decide) rfl) ?_
  refine ex_s (fun _ => ev_aload_n dX12_readRiver_21 rfl) ?_
  refine ex_s (fun _ => ev_getR fX12_40 dX12_readRiver_22 (by decide) sh115 rfl) ?_
  refine ex_s (fun _ => ev_iload_n dX12_readRiver_25 rfl) ?_
  refine ex_s (fun _ => ev_iconst dX12_readRiver_26 ic2) ?_
  refine ex_s (fun _ => ev_iadd dX12_readRiver_27) ?_
  first | refine ex_s (fun _ => ev_top (nI_add _ _)) ?_ | skip
  refine ex_s (fun _ => ev_aload_n dX12_readRiver_28 rfl) ?_
  refine ex_s (fun _ => ev_getI fX12_233 dX12_readRiver_29 (by decide) sh115 rfl) ?_
  refine ex_s (fun _ => ev_top h2.1) ?_
  refine ex_s (fun _ => ev_iastore dX12_readRiver_32 rfl (by omega) rfl (by decide) sh124) ?_
  have h2b := RD_124 h2 (j + 2) (nI (r2 n t p).2)
  have k4 := r4_ok k2.2
  have kk := rK_le k2.2
  have hex : ∀ (k : Nat) (y : WS), rK n t p = k → RD w (r4 n t p) m (upd (upd f (j + 1) (nI (nv n t (0, p)))) (j + 2) (nI (r2 n t p).2)) y → Ex G 8 0 mX12_readRiver 87 [some (.ref 115), some (.int (nI j)), some (.int (nI (sv n t 58 58 (nu n t (0, p))))), some (.int (nI k))] [] y (pRR w n t p m j f) := by
    intro k y hk hR
    refine ex_s (fun _ => ev_aload_n dX12_readRiver_87 rfl) ?_
    refine ex_s (fun _ => ev_getR fX12_40 dX12_readRiver_88 (by decide) sh115 rfl) ?_
    refine ex_s (fun _ => ev_iload_n dX12_readRiver_91 rfl) ?_
    refine ex_s (fun _ => ev_iconst dX12_readRiver_92 ic3) ?_
    refine ex_s (fun _ => ev_iadd dX12_readRiver_93) ?_
    first | refine ex_s (fun _ => ev_top (nI_add _ _)) ?_ | skip
    refine ex_s (fun _ => ev_iload_n dX12_readRiver_94 rfl) ?_
    refine ex_s (fun _ => ev_iastore dX12_readRiver_95 rfl (by omega) rfl (by decide) sh124) ?_
    refine ex_s (fun _ => ev_aload_n dX12_readRiver_96 rfl) ?_
    refine ex_s (fun _ => ev_bipush (v := nI 61) dX12_readRiver_97 (by decide)) ?_
    refine ex_s (fun _ => ev_bipush (v := nI 61) dX12_readRiver_99 (by decide)) ?_
    have h4b := RD_124 hR (j + 3) (nI k)
    obtain ⟨_, x5, ⟨rfl, h5⟩, hB5⟩ := qX12_sign (G := G) hi h4b k4.1 k4.2 (a := 61) (b := 61) (by decide) (by decide)
    have k5 : (rr5 n t p).1 ≤ 1 ∧ (rr5 n t p).2 ≤ n := sg_ok k4.2
    have h5 : RD w (rr5 n t p) m _ x5 := h5
    refine ex_s (fun _ => ev_callV kX12_240 co115 hB5 dX12_readRiver_101 rfl (by decide) (by decide) rfl) ?_
    refine ex_s (fun _ => ev_ist2 dX12_readRiver_104 (by decide) rfl) ?_
    refine ex_s (fun _ => ev_aload_n dX12_readRiver_105 rfl) ?_
    refine ex_s (fun _ => ev_getR fX12_40 dX12_readRiver_106 (by decide) sh115 rfl) ?_
    refine ex_s (fun _ => ev_iload_n dX12_readRiver_109 rfl) ?_
    refine ex_s (fun _ => ev_iconst dX12_readRiver_110 ic4) ?_
    refine ex_s (fun _ => ev_iadd dX12_readRiver_111) ?_
    first | refine ex_s (fun _ => ev_top (nI_add _ _)) ?_ | skip
    refine ex_s (fun _ => ev_aload_n dX12_readRiver_112 rfl) ?_
    obtain ⟨_, x6, ⟨rfl, h6⟩, hB6⟩ := qX12_number (G := G) hi h5 k5.1 k5.2
    refine ex_s (fun _ => ev_callV kX12_244 co115 hB6 dX12_readRiver_113 rfl (by decide) (by decide) rfl) ?_
    refine ex_s (fun _ => ev_iastore dX12_readRiver_116 rfl (by omega) rfl (by decide) sh124) ?_
    exact ⟨_, _, (by subst hk; exact ⟨rfl, RD_124 h6 (j + 4) _⟩), ev_vret dX12_readRiver_117 rfl rfl rfl⟩
  cases e3 : stE n t (r2 n t p) with
  | true =>
    have e0 := (of_decide_eq_true e3).1
    refine ex_s (fun _ => ev_aload_n dX12_readRiver_33 rfl) ?_
    refine ex_s (fun _ => ev_aload_n dX12_readRiver_34 rfl) ?_
    refine ex_s (fun _ => ev_getI fX12_230 dX12_readRiver_35 (by decide) sh115 rfl) ?_
    refine ex_s (fun _ => ev_top (h2b.2.1.trans (by rw [e0]) : _ = nI 0)) ?_
    refine ex_s (fun _ => ev_if_ne_f (tgt := 48) dX12_readRiver_38 (by decide) rfl) ?_
    refine ex_s (fun _ => ev_aload_n dX12_readRiver_41 rfl) ?_
    refine ex_s (fun _ => ev_callV kX12_248 co115 (qX12_isStep hi h2b k2.1 k2.2) dX12_readRiver_42 rfl (by decide) (by decide) rfl) ?_
    rw [e3]
    refine ex_s (fun _ => ev_if_ne_t (tgt := 52) dX12_readRiver_45 (by decide) (by decide)) ?_
    refine ex_s (fun _ => ev_iconst dX12_readRiver_52 ic0) ?_
    refine ex_s (fun _ => ev_put fX12_230 dX12_readRiver_53 rfl rfl (by decide) sh115 rfl) ?_
    refine ex_s (fun _ => ev_iconst dX12_readRiver_56 ic0) ?_
    refine ex_s (fun _ => ev_ist3 dX12_readRiver_57 (by decide) rfl) ?_
    have lp : ∀ (n9 i : Nat) (y : WS), i + n9 = 12 → stN n t 12 (r2 n t p).2 = i + stN n t n9 ((r2 n t p).2 + i) → RD w (0, (r2 n t p).2 + i) m (upd (upd f (j + 1) (nI (nv n t (0, p)))) (j + 2) (nI (r2 n t p).2)) y → (r2 n t p).2 + i ≤ n → Ex G 8 0 mX12_readRiver 58 [some (.ref 115), some (.int (nI j)), some (.int (nI (sv n t 58 58 (nu n t (0, p))))), some (.int (nI i))] [] y (pRR w n t p m j f) := by
      intro n9
      induction n9 with
      | zero =>
        intro i y hi9 hL hR hq
        refine ex_s (fun _ => ev_iload_n dX12_readRiver_58 rfl) ?_
        refine ex_s (fun _ => ev_bipush (v := nI 12) dX12_readRiver_59 (by decide)) ?_
        refine ex_s (fun _ => ev_icmp_ge_t (tgt := 87) dX12_readRiver_61 (by decide) (nI_le (by omega) (by omega))) ?_
        have hKi : rK n t p = i := by unfold rK; rw [if_pos e3, hL]; rfl
        exact hex i y hKi (by unfold r4; rw [if_pos e3, hKi]; exact hR)
      | succ n9 ih =>
        intro i y hi9 hL hR hq
        refine ex_s (fun _ => ev_iload_n dX12_readRiver_58 rfl) ?_
        refine ex_s (fun _ => ev_bipush (v := nI 12) dX12_readRiver_59 (by decide)) ?_
        refine ex_s (fun _ => ev_icmp_ge_f (tgt := 87) dX12_readRiver_61 (by decide) (nI_ge (by omega) (by decide))) ?_
        refine ex_s (fun _ => ev_aload_n dX12_readRiver_64 rfl) ?_
        refine ex_s (fun _ => ev_callV kX12_248 co115 (qX12_isStep hi hR (Nat.zero_le _) hq) dX12_readRiver_65 rfl (by decide) (by decide) rfl) ?_
        refine ex_b0 (fun _ => ev_ifb_eq (tgt := 87) dX12_readRiver_68 (by decide)) (fun hc68 => ?_) (fun hc68 => ?_)
        · have hns : stp n t ((r2 n t p).2 + i) = none := by
            cases e : stp n t ((r2 n t p).2 + i) with
            | none => rfl
            | some d => exact absurd hc68 (by unfold stE; rw [decide_eq_true ⟨rfl, by rw [e]; rfl⟩]; decide)
          have hKi : rK n t p = i := by unfold rK; rw [if_pos e3, hL, stN, hns]; rfl
          exact hex i y hKi (by unfold r4; rw [if_pos e3, hKi]; exact hR)
        · refine ex_s (fun _ => ev_aload_n dX12_readRiver_71 rfl) ?_
          refine ex_s (fun _ => ev_dup dX12_readRiver_72 rfl) ?_
          obtain ⟨-, hs⟩ := of_decide_eq_true hc68
          obtain ⟨d, hd⟩ := Option.isSome_iff_exists.mp hs
          have hlt := (stp_lt hd).2
          refine ex_s (fun _ => ev_getI fX12_233 dX12_readRiver_73 (by decide) sh115 rfl) ?_
          refine ex_s (fun _ => ev_top hR.1) ?_
          refine ex_s (fun _ => ev_iconst dX12_readRiver_76 ic1) ?_
          refine ex_s (fun _ => ev_iadd dX12_readRiver_77) ?_
          first | refine ex_s (fun _ => ev_top (nI_add _ _)) ?_ | skip
          refine ex_s (fun _ => ev_put fX12_233 dX12_readRiver_78 rfl rfl (by decide) sh115 rfl) ?_
          refine ex_s (fun _ => ev_iinc3 dX12_readRiver_81 (nI_inc _) (by decide) rfl) ?_
          refine ex_s (fun _ => ev_goto (tgt := 58) dX12_readRiver_84 (by decide)) ?_
          refine ih (i + 1) _ (by omega) ?_ (RD_14 hR ((r2 n t p).2 + i + 1)) hlt
          rw [hL, stN, hd]
          simp only [Option.isSome_some, if_true]
          rw [show (r2 n t p).2 + i + 1 = (r2 n t p).2 + (i + 1) by omega]
          omega
    refine lp 12 0 _ (Nat.zero_add _) (by rw [Nat.zero_add]; rfl) (RD_15 h2b 0) k2.2
  | false =>
    rcases Nat.eq_zero_or_pos (r2 n t p).1 with e0 | e0
    · skip
      refine ex_s (fun _ => ev_aload_n dX12_readRiver_33 rfl) ?_
      refine ex_s (fun _ => ev_aload_n dX12_readRiver_34 rfl) ?_
      refine ex_s (fun _ => ev_getI fX12_230 dX12_readRiver_35 (by decide) sh115 rfl) ?_
      refine ex_s (fun _ => ev_top (h2b.2.1.trans (by rw [e0]) : _ = nI 0)) ?_
      refine ex_s (fun _ => ev_if_ne_f (tgt := 48) dX12_readRiver_38 (by decide) rfl) ?_
      refine ex_s (fun _ => ev_aload_n dX12_readRiver_41 rfl) ?_
      refine ex_s (fun _ => ev_callV kX12_248 co115 (qX12_isStep hi h2b k2.1 k2.2) dX12_readRiver_42 rfl (by decide) (by decide) rfl) ?_
      rw [e3]
      refine ex_s (fun _ => ev_if_ne_f (tgt := 52) dX12_readRiver_45 (by decide) rfl) ?_
      refine ex_s (fun _ => ev_iconst dX12_readRiver_48 ic1) ?_
      refine ex_s (fun _ => ev_goto (tgt := 53) dX12_readRiver_49 (by decide)) ?_
      refine ex_s (fun _ => ev_put fX12_230 dX12_readRiver_53 rfl rfl (by decide) sh115 rfl) ?_
      refine ex_s (fun _ => ev_iconst dX12_readRiver_56 ic0) ?_
      refine ex_s (fun _ => ev_ist3 dX12_readRiver_57 (by decide) rfl) ?_
      refine ex_s (fun _ => ev_iload_n dX12_readRiver_58 rfl) ?_
      refine ex_s (fun _ => ev_bipush (v := nI 12) dX12_readRiver_59 (by decide)) ?_
      refine ex_s (fun _ => ev_icmp_ge_f (tgt := 87) dX12_readRiver_61 (by decide) (by decide)) ?_
      refine ex_s (fun _ => ev_aload_n dX12_readRiver_64 rfl) ?_
      have h3 := RD_15 h2b 1
      have e3b : ¬ stE n t (r2 n t p) = true := fun q => by rw [e3] at q; cases q
      have hK0 : rK n t p = 0 := by unfold rK; rw [if_neg e3b]
      have h4 : r4 n t p = (1, (r2 n t p).2) := by unfold r4; rw [if_neg e3b, hK0]; rfl
      refine ex_s (fun _ => ev_callV kX12_248 co115 (qX12_isStep_1 hi h3 (Nat.le_refl _) k2.2 rfl) dX12_readRiver_65 rfl (by decide) (by decide) rfl) ?_
      refine ex_s (fun _ => ev_if_eq_t (tgt := 87) dX12_readRiver_68 (by decide) rfl) ?_
      exact hex 0 _ hK0 (by rw [h4]; exact h3)
    · have e0 : (r2 n t p).1 = 1 := by omega
      refine ex_s (fun _ => ev_aload_n dX12_readRiver_33 rfl) ?_
      refine ex_s (fun _ => ev_aload_n dX12_readRiver_34 rfl) ?_
      refine ex_s (fun _ => ev_getI fX12_230 dX12_readRiver_35 (by decide) sh115 rfl) ?_
      refine ex_s (fun _ => ev_top (h2b.2.1.trans (by rw [e0]) : _ = nI 1)) ?_
      refine ex_s (fun _ => ev_if_ne_t (tgt := 48) dX12_readRiver_38 (by decide) (by decide)) ?_
      refine ex_s (fun _ => ev_iconst dX12_readRiver_48 ic1) ?_
      refine ex_s (fun _ => ev_goto (tgt := 53) dX12_readRiver_49 (by decide)) ?_
      refine ex_s (fun _ => ev_put fX12_230 dX12_readRiver_53 rfl rfl (by decide) sh115 rfl) ?_
      refine ex_s (fun _ => ev_iconst dX12_readRiver_56 ic0) ?_
      refine ex_s (fun _ => ev_ist3 dX12_readRiver_57 (by decide) rfl) ?_
      refine ex_s (fun _ => ev_iload_n dX12_readRiver_58 rfl) ?_
      refine ex_s (fun _ => ev_bipush (v := nI 12) dX12_readRiver_59 (by decide)) ?_
      refine ex_s (fun _ => ev_icmp_ge_f (tgt := 87) dX12_readRiver_61 (by decide) (by decide)) ?_
      refine ex_s (fun _ => ev_aload_n dX12_readRiver_64 rfl) ?_
      have h3 := RD_15 h2b 1
      have e3b : ¬ stE n t (r2 n t p) = true := fun q => by rw [e3] at q; cases q
      have hK0 : rK n t p = 0 := by unfold rK; rw [if_neg e3b]
      have h4 : r4 n t p = (1, (r2 n t p).2) := by unfold r4; rw [if_neg e3b, hK0]; rfl
      refine ex_s (fun _ => ev_callV kX12_248 co115 (qX12_isStep_1 hi h3 (Nat.le_refl _) k2.2 rfl) dX12_readRiver_65 rfl (by decide) (by decide) rfl) ?_
      refine ex_s (fun _ => ev_if_eq_t (tgt := 87) dX12_readRiver_68 (by decide) rfl) ?_
      exact hex 0 _ hK0 (by rw [h4]; exact h3)
