/-! the reference: rivers drawn; a change kept -/
theorem ev_ist10 {G : GX} {d b : Nat} {M : MT} {pc : Nat} {q : List (Option Value)} {a0 a1 a2 a3 a4 a5 a6 a7 a8 a9 a10 : Option Value} {st : List Value} {w : WS} {Z : ZT} {x : Int32} (hd : decode M.2.1 pc = .ok (.istore 10, 2)) (hn : 10 < M.2.2.1) (hc : c1_ (a0 :: a1 :: a2 :: a3 :: a4 :: a5 :: a6 :: a7 :: a8 :: a9 :: a10 :: q) 10 = true)
    (K : Ev G d b M (pc + 2) (a0 :: a1 :: a2 :: a3 :: a4 :: a5 :: a6 :: a7 :: a8 :: a9 :: some (Value.int x) :: q) st w Z) : Ev G d b M pc (a0 :: a1 :: a2 :: a3 :: a4 :: a5 :: a6 :: a7 :: a8 :: a9 :: a10 :: q) (Value.int x :: st) w Z := ev_istore_g (k := 10) hd hn hc K
theorem ev_fg10 {G : GX} {d b : Nat} {M : MT} {pc : Nat} {q : List (Option Value)} {x : Option Value} {a0 a1 a2 a3 a4 a5 a6 a7 a8 a9 : Option Value} {st : List Value} {w : WS} {Z : ZT} (K : Ev G d b M pc (a0 :: a1 :: a2 :: a3 :: a4 :: a5 :: a6 :: a7 :: a8 :: a9 :: none :: q) st w Z) : Ev G d b M pc (a0 :: a1 :: a2 :: a3 :: a4 :: a5 :: a6 :: a7 :: a8 :: a9 :: x :: q) st w Z := ev_sub _ (fun k v h => by
  first
  | (match k, h with | 0, h => exact h | 1, h => exact h | 2, h => exact h | 3, h => exact h | 4, h => exact h | 5, h => exact h | 6, h => exact h | 7, h => exact h | 8, h => exact h | 9, h => exact h | 10, h => cases h | k + 11, h => exact h)
  ) K
theorem rvS_6 {S : ST} {c l : Nat} {ds : Nat → Nat} (h : 4 ≤ nR S) : rvS S c l ds = 6 := by unfold rvS; rw [if_pos h]
theorem rvS_7 {S : ST} {c l k : Nat} {ds : Nat → Nat} (h : ¬ 4 ≤ nR S) (hl : lv_ c ds l = some k) : rvS S c l ds = 7 := by unfold rvS; rw [if_neg h, hl]; rfl
theorem rvS_0 {S : ST} {c l : Nat} {ds : Nat → Nat} (h : ¬ 4 ≤ nR S) (hl : lv_ c ds l = none) : rvS S c l ds = 0 := by unfold rvS; rw [if_neg h, hl]; rfl
set_option maxRecDepth 4000 in
theorem qX12_draws {G : GX} {w : WS} {S : ST} (hS : mR S w) {c t fr l : Nat} {ds : Nat → Nat} (hc : c < 64) (ht : t ≤ 99) (hl1 : 1 ≤ l) (hl12 : l ≤ 12) (hfl : fr + l ≤ 60) (hch : ∀ k, k < l → (∃ ch, ch < 128 ∧ w.1 123 (fr + k) = nI ch ∧ dO_ ch = some (ds k)) ∧ ds k < 4) : ∃ o w2, (pDo S (.inr (.inr (.inr (.inl (c, t, l, ds))))) 4 w o w2) ∧ Big G 6 0 mX12_draws [.ref 115, .int (nI c), .int (nI t), .int (nI fr), .int (nI l), .int (nI 4)] w o w2 := by
  have hS0 := hS
  obtain ⟨⟨q0, q1, ⟨m0, m1, m2, m3, m4⟩, qr, qc, qv, qd⟩, hk1, hk2, hk3, hk4⟩ := hS
  have h4 := hk2.1
  have h5 := hk3.1
  refine bx_of (P := pDo S (.inr (.inr (.inr (.inl (c, t, l, ds))))) 4 w) (by decide +kernel) (Nat.le_of_ble_eq_true rfl) ?_
  show Ex G 6 0 mX12_draws 0 [some (.ref 115), some (.int (nI c)), some (.int (nI t)), some (.int (nI fr)), some (.int (nI l)), some (.int (nI 4)), none, none, none, none, none] [] w _
  refine ex_s (fun _ => ev_aload_n dX12_draws_0 rfl) ?_
  refine ex_s (fun _ => ev_getR fX12_9 dX12_draws_1 (by decide) sh115 rfl) ?_
  refine ex_s (fun _ => ev_iconst dX12_draws_4 ic0) ?_
  refine ex_s (fun _ => ev_iaload dX12_draws_5 rfl (by omega) (by decide) sh116) ?_
  refine ex_s (fun _ => ev_top q0) ?_
  refine ex_s (fun _ => ev_ist6 dX12_draws_6 (by decide) rfl) ?_
  refine ex_s (fun _ => ev_iload dX12_draws_8 rfl) ?_
  refine ex_s (fun _ => ev_iconst dX12_draws_10 ic4) ?_
  refine ex_bn (fun _ => ev_icmp_ne (tgt := 24) dX12_draws_11 (by decide)) (fun hc11 => ?_) (fun hc11 => ?_)
  · have hn4 : ¬ 4 ≤ nR S := fun z => hc11 (by rw [show nR S = 4 by omega])
    refine ex_s (fun _ => ev_bipush (v := nI 83) dX12_draws_24 (by decide)) ?_
    refine ex_s (fun _ => ev_bipush (v := nI 15) dX12_draws_26 (by decide)) ?_
    refine ex_s (fun _ => ev_iload dX12_draws_28 rfl) ?_
    refine ex_s (fun _ => ev_imul dX12_draws_30) ?_
    first | refine ex_s (fun _ => ev_top (pk_mul _ _)) ?_ | skip
    refine ex_s (fun _ => ev_iadd dX12_draws_31) ?_
    first | refine ex_s (fun _ => ev_top (nI_add _ _)) ?_ | skip
    refine ex_s (fun _ => ev_ist7 dX12_draws_32 (by decide) rfl) ?_
    refine ex_s (fun _ => ev_iload_n dX12_draws_34 rfl) ?_
    refine ex_s (fun _ => ev_ist8 dX12_draws_35 (by decide) rfl) ?_
    refine ex_s (fun _ => ev_iconst dX12_draws_37 ic0) ?_
    refine ex_s (fun _ => ev_ist9 dX12_draws_38 (by decide) rfl) ?_
    have lp : ∀ (n9 k : Nat) (y : WS) (x : Nat), k + n9 = l → frG [(116, 116)] w y → (∀ j, (j < 83 + 15 * nR S ∨ 143 ≤ j) → y.1 116 j = w.1 116 j) → (∀ q, q < k → y.1 116 (83 + 15 * nR S + 3 + q) = nI (ds q)) → pth c ds k = some x → (∀ j, j < k → (pth c ds (j + 1)).isNone = false) → Ex G 6 0 mX12_draws 40 [some (.ref 115), some (.int (nI c)), some (.int (nI t)), some (.int (nI fr)), some (.int (nI l)), some (.int (nI 4)), some (.int (nI (nR S))), some (.int (nI (83 + 15 * nR S))), some (.int (nI x)), some (.int (nI k)), none] [] y (pDo S (.inr (.inr (.inr (.inl (c, t, l, ds))))) 4 w) := by
      intro n9
      induction n9 with
      | zero =>
        intro k y x hi9 hf ho he hx hb
        refine ex_s (fun _ => ev_iload dX12_draws_40 rfl) ?_
        refine ex_s (fun _ => ev_iload dX12_draws_42 rfl) ?_
        refine ex_s (fun _ => ev_icmp_ge_t (tgt := 108) dX12_draws_44 (by decide) (nI_le (by omega) (by omega))) ?_
        refine ex_s (fun _ => ev_aload_n dX12_draws_108 rfl) ?_
        refine ex_s (fun _ => ev_getR fX12_9 dX12_draws_109 (by decide) sh115 rfl) ?_
        refine ex_s (fun _ => ev_iload dX12_draws_112 rfl) ?_
        refine ex_s (fun _ => ev_iload_n dX12_draws_114 rfl) ?_
        refine ex_s (fun _ => ev_iastore dX12_draws_115 rfl (by omega) rfl (by decide) sh116) ?_
        refine ex_s (fun _ => ev_aload_n dX12_draws_116 rfl) ?_
        refine ex_s (fun _ => ev_getR fX12_9 dX12_draws_117 (by decide) sh115 rfl) ?_
        refine ex_s (fun _ => ev_iload dX12_draws_120 rfl) ?_
        refine ex_s (fun _ => ev_iconst dX12_draws_122 ic1) ?_
        refine ex_s (fun _ => ev_iadd dX12_draws_123) ?_
        first | refine ex_s (fun _ => ev_top (nI_add _ _)) ?_ | skip
        refine ex_s (fun _ => ev_iload_n dX12_draws_124 rfl) ?_
        refine ex_s (fun _ => ev_iastore dX12_draws_125 rfl (by omega) rfl (by decide) sh116) ?_
        refine ex_s (fun _ => ev_aload_n dX12_draws_126 rfl) ?_
        refine ex_s (fun _ => ev_getR fX12_9 dX12_draws_127 (by decide) sh115 rfl) ?_
        refine ex_s (fun _ => ev_iload dX12_draws_130 rfl) ?_
        refine ex_s (fun _ => ev_iconst dX12_draws_132 ic2) ?_
        refine ex_s (fun _ => ev_iadd dX12_draws_133) ?_
        first | refine ex_s (fun _ => ev_top (nI_add _ _)) ?_ | skip
        refine ex_s (fun _ => ev_iload dX12_draws_134 rfl) ?_
        refine ex_s (fun _ => ev_iastore dX12_draws_136 rfl (by omega) rfl (by decide) sh116) ?_
        refine ex_s (fun _ => ev_aload_n dX12_draws_137 rfl) ?_
        refine ex_s (fun _ => ev_getR fX12_9 dX12_draws_138 (by decide) sh115 rfl) ?_
        refine ex_s (fun _ => ev_iconst dX12_draws_141 ic0) ?_
        refine ex_s (fun _ => ev_dup2 dX12_draws_142 rfl rfl) ?_
        have hlv : lv_ c ds l = none := find_none (fun j hj => hb j (by omega))
        refine ex_s (fun _ => ev_iaload dX12_draws_143 rfl (by omega) (by decide) sh116) ?_
        refine ex_s (fun _ => ev_top (y := nI (nR S)) (show (upd (upd (upd (y.1 116) (83 + 15 * nR S) (nI c)) (83 + 15 * nR S + 1) (nI t)) (83 + 15 * nR S + 2) (nI l)) 0 = _ by rw [pk_un (by omega), pk_un (by omega), pk_un (by omega), ho 0 (by omega)]; exact q0)) ?_
        refine ex_s (fun _ => ev_iconst dX12_draws_144 ic1) ?_
        refine ex_s (fun _ => ev_iadd dX12_draws_145) ?_
        first | refine ex_s (fun _ => ev_top (nI_add _ _)) ?_ | skip
        refine ex_s (fun _ => ev_iastore dX12_draws_146 rfl (by omega) rfl (by decide) sh116) ?_
        refine ex_s (fun _ => ev_iload dX12_draws_147 rfl) ?_
        exact ⟨_, _, (by exact pDo_y (show grC S (.inr (.inr (.inr (.inl (c, t, l, ds))))) = 0 from rvS_0 hn4 hlv) ⟨rA_draw hS0.1 hS0.2 (by omega) hl12 (fun q hq => plN_lt hc hlv hq) (fun q hq => ⟨(hch q hq).2, plN_nb hlv hq⟩) (show (upd (upd (upd (upd (y.1 116) (83 + 15 * nR S) (nI c)) (83 + 15 * nR S + 1) (nI t)) (83 + 15 * nR S + 2) (nI l)) 0 (nI (nR S + 1))) 0 = _ from pk_us) (fun j h0 h1 => by
                      show (upd (upd (upd (upd (y.1 116) (83 + 15 * nR S) (nI c)) (83 + 15 * nR S + 1) (nI t)) (83 + 15 * nR S + 2) (nI l)) 0 (nI (nR S + 1))) j = _
                      rw [pk_un h0, pk_un (by omega), pk_un (by omega), pk_un (by omega)]; exact ho j h1) (show (upd (upd (upd (upd (y.1 116) (83 + 15 * nR S) (nI c)) (83 + 15 * nR S + 1) (nI t)) (83 + 15 * nR S + 2) (nI l)) 0 (nI (nR S + 1))) (83 + 15 * nR S) = _ by rw [pk_un (by omega), pk_un (by omega), pk_un (by omega), pk_us]; rfl) (show (upd (upd (upd (upd (y.1 116) (83 + 15 * nR S) (nI c)) (83 + 15 * nR S + 1) (nI t)) (83 + 15 * nR S + 2) (nI l)) 0 (nI (nR S + 1))) (83 + 15 * nR S + 1) = _ by rw [pk_un (by omega), pk_un (by omega), pk_us]) (show (upd (upd (upd (upd (y.1 116) (83 + 15 * nR S) (nI c)) (83 + 15 * nR S + 1) (nI t)) (83 + 15 * nR S + 2) (nI l)) 0 (nI (nR S + 1))) (83 + 15 * nR S + 2) = _ by rw [pk_un (by omega), pk_us]) (fun q hq => show (upd (upd (upd (upd (y.1 116) (83 + 15 * nR S) (nI c)) (83 + 15 * nR S + 1) (nI t)) (83 + 15 * nR S + 2) (nI l)) 0 (nI (nR S + 1))) (83 + 15 * nR S + 3 + q) = _ by rw [pk_un (by omega), pk_un (by omega), pk_un (by omega), pk_un (by omega)]; exact he q (by omega)), ok_ar hS0.2 (by omega) ht hl1 hl12 (fun q hq => plN_lt hc hlv hq) (fun q hq => ⟨ds q, (hch q hq).2, plN_nb hlv hq⟩)⟩ (frG_cs (frG_cs (frG_cs (frG_cs hf (by decide) _) (by decide) _) (by decide) _) (by decide) _) rfl), ev_iret dX12_draws_149 rfl rfl rfl rfl⟩
      | succ n9 ih =>
        intro k y x hi9 hf ho he hx hb
        refine ex_s (fun _ => ev_iload dX12_draws_40 rfl) ?_
        refine ex_s (fun _ => ev_iload dX12_draws_42 rfl) ?_
        refine ex_s (fun _ => ev_icmp_ge_f (tgt := 108) dX12_draws_44 (by decide) (nI_ge (by omega) (by omega))) ?_
        refine ex_s (fun _ => ev_ldc_nesw rfl dX12_draws_47) ?_
        refine ex_s (fun _ => ev_aload_n dX12_draws_49 rfl) ?_
        refine ex_s (fun _ => ev_getR fX12_33 dX12_draws_50 (by decide) sh115 rfl) ?_
        refine ex_s (fun _ => ev_iload_n dX12_draws_53 rfl) ?_
        refine ex_s (fun _ => ev_iload dX12_draws_54 rfl) ?_
        refine ex_s (fun _ => ev_iadd dX12_draws_56) ?_
        first | refine ex_s (fun _ => ev_top (nI_add _ _)) ?_ | skip
        obtain ⟨⟨ch, hch1, hch2, hch3⟩, hd4⟩ := hch k (by omega)
        refine ex_s (fun _ => ev_caload dX12_draws_57 rfl (by omega) (by decide) sh123) ?_
        refine ex_s (fun _ => ev_top ((congrFun (frG_at hf (by decide) : y.1 123 = w.1 123) _).trans hch2)) ?_
        refine ex_s (fun _ => ev_callVs (i := 0) kX12_127 (by decide) rfl (qJ0_indexOf_0 hch1) dX12_draws_58 rfl (by decide) (by decide) rfl) ?_
        refine ex_s (fun _ => ev_top (y := nI (ds k)) (by rw [hch3]; rfl)) ?_
        refine ex_s (fun _ => ev_ist10 dX12_draws_61 (by decide) rfl) ?_
        refine ex_s (fun _ => ev_iload dX12_draws_63 rfl) ?_
        refine ex_s (fun _ => ev_iload dX12_draws_65 rfl) ?_
        refine ex_s (fun _ => ev_callS kX12_103 (qX12_beside (pth_lt hc hx) hd4) dX12_draws_67 rfl (by decide) (by decide) rfl) ?_
        refine ex_s (fun _ => ev_ist8 dX12_draws_70 (by decide) rfl) ?_
        refine ex_s (fun _ => ev_iload dX12_draws_72 rfl) ?_
        have e1 : pth c ds (k + 1) = nb x (ds k) := by show (pth c ds k).bind (fun x => nb x (ds k)) = _; rw [hx]; rfl
        have ob : ∀ j, nb x (ds k) = some j → j < 2 ^ 31 := fun j hj => by have := nb_lt (pth_lt hc hx) hj; omega
        refine ex_bp (fun _ => ev_if_ge (tgt := 88) dX12_draws_74 (by decide)) (fun hc74 => ?_) (fun hc74 => ?_)
        · obtain ⟨x2, e2⟩ : ∃ x2, nb x (ds k) = some x2 := by
            cases e : nb x (ds k) with
            | none => rw [e] at hc74; exact absurd hc74 (by decide)
            | some z => exact ⟨z, rfl⟩
          rw [e2]
          refine ex_s (fun _ => ev_aload_n dX12_draws_88 rfl) ?_
          refine ex_s (fun _ => ev_getR fX12_9 dX12_draws_89 (by decide) sh115 rfl) ?_
          refine ex_s (fun _ => ev_iload dX12_draws_92 rfl) ?_
          refine ex_s (fun _ => ev_iconst dX12_draws_94 ic3) ?_
          refine ex_s (fun _ => ev_iadd dX12_draws_95) ?_
          first | refine ex_s (fun _ => ev_top (nI_add _ _)) ?_ | skip
          refine ex_s (fun _ => ev_iload dX12_draws_96 rfl) ?_
          refine ex_s (fun _ => ev_iadd dX12_draws_98) ?_
          first | refine ex_s (fun _ => ev_top (nI_add _ _)) ?_ | skip
          refine ex_s (fun _ => ev_iload dX12_draws_99 rfl) ?_
          refine ex_s (fun _ => ev_iastore dX12_draws_101 rfl (by omega) rfl (by decide) sh116) ?_
          refine ex_s (fun _ => ev_iinc9 dX12_draws_102 (nI_inc _) (by decide) rfl) ?_
          refine ex_s (fun _ => ev_goto (tgt := 40) dX12_draws_105 (by decide)) ?_
          refine ex_s (fun _ => ev_fg10) ?_
          refine ih (k + 1) _ x2 (by omega) (frG_cs hf (by decide) _) (fun j hj => ?_) (fun q hq => ?_) (e1.trans e2) (fun j hj => ?_)
          · show upd (y.1 116) (83 + 15 * nR S + 3 + k) (nI (ds k)) j = _
            rw [pk_un (by omega)]
            exact ho j hj
          · show upd (y.1 116) (83 + 15 * nR S + 3 + k) (nI (ds k)) (83 + 15 * nR S + 3 + q) = _
            by_cases e : q = k
            · rw [e, pk_us]
            · rw [pk_un (by omega)]; exact he q (by omega)
          · by_cases e : j = k
            · rw [e, e1, e2]; rfl
            · exact hb j (by omega)
        · have e2 : nb x (ds k) = none := (oI_lt ob).mp (Int32.not_le.mp hc74)
          have hlv : lv_ c ds l = some k := find_some (by omega) (by rw [e1, e2]; rfl) hb
          refine ex_s (fun _ => ev_aload_n dX12_draws_77 rfl) ?_
          refine ex_s (fun _ => ev_iload dX12_draws_78 rfl) ?_
          refine ex_s (fun _ => ev_bipush (v := nI 7) dX12_draws_80 (by decide)) ?_
          refine ex_s (fun _ => ev_iload dX12_draws_82 rfl) ?_
          refine ex_s (fun _ => ev_callV kX12_85 co115 (qX12_refuse (k := 4)) dX12_draws_84 rfl (by decide) (by decide) rfl) ?_
          exact ⟨_, _, (by exact pDo_n1 (g := 7) ⟨rA_eqr hS0.1 hS0.2 ho, hS0.2⟩ hf (show grC S (.inr (.inr (.inr (.inl (c, t, l, ds))))) = 7 from rvS_7 hn4 hlv) (by decide) (by decide) (by decide) (show nI k = oI (lv_ c ds l) by rw [hlv]; rfl)), ev_iret dX12_draws_87 rfl rfl rfl rfl⟩
    exact lp l 0 w c (Nat.zero_add _) frG_rf (fun _ _ => rfl) (fun q hq => absurd hq (Nat.not_lt_zero _)) rfl (fun j hj => absurd hj (Nat.not_lt_zero _))
  · have hn4 : 4 ≤ nR S := by have := nI_inj (by omega) (by decide) hc11; omega
    refine ex_s (fun _ => ev_aload_n dX12_draws_14 rfl) ?_
    refine ex_s (fun _ => ev_iload dX12_draws_15 rfl) ?_
    refine ex_s (fun _ => ev_bipush (v := nI 6) dX12_draws_17 (by decide)) ?_
    refine ex_s (fun _ => ev_iconst dX12_draws_19 ic4) ?_
    refine ex_s (fun _ => ev_callV kX12_85 co115 (qX12_refuse (k := 4)) dX12_draws_20 rfl (by decide) (by decide) rfl) ?_
    exact ⟨_, _, (by exact pDo_n1 (g := 6) hS0 frG_rf (show grC S (.inr (.inr (.inr (.inl (c, t, l, ds))))) = 6 from rvS_6 hn4) (by decide) (by decide) (by decide) rfl), ev_iret dX12_draws_23 rfl rfl rfl rfl⟩
theorem stN_ge {n : Nat} {t : Nat → Nat} : ∀ {f m p : Nat}, m ≤ f → (∀ k, k < m → (stp n t (p + k)).isSome = true) → m ≤ stN n t f p := by
  intro f
  induction f with
  | zero => intro m p h _; omega
  | succ f ih =>
    intro m p h hs
    cases m with
    | zero => exact Nat.zero_le _
    | succ m =>
      unfold stN
      have h0 := hs 0 (by omega)
      rw [Nat.add_zero] at h0
      rw [if_pos h0]
      have := ih (p := p + 1) (m := m) (by omega) (fun k hk => by have := hs (k + 1) (by omega); rw [show p + 1 + k = p + (k + 1) by omega]; exact this)
      omega
def arS (n : Nat) (t : Nat → Nat) : Bool := decide (1 ≤ n ∧ n ≤ 12) && (List.range n).all (fun k => (dO_ (t k)).isSome)
theorem arS_eq (n : Nat) (t : Nat → Nat) : arS n t = true ↔ (0 < stN n t 12 0 ∧ stN n t 12 0 = n) := by
  unfold arS
  rw [Bool.and_eq_true, decide_eq_true_iff, List.all_eq_true]
  have hle := stN_le (n := n) (t := t) (f := 12) (p := 0) (Nat.zero_le _)
  constructor
  · rintro ⟨h1, h2⟩
    have := stN_ge (n := n) (t := t) (f := 12) (m := n) (p := 0) h1.2 (fun k hk => by
      rw [Nat.zero_add]
      unfold stp
      rw [if_pos hk]
      exact h2 k (List.mem_range.mpr hk))
    omega
  · rintro ⟨h1, h2⟩
    refine ⟨by omega, fun k hk => ?_⟩
    have hk := List.mem_range.mp hk
    obtain ⟨d, hd⟩ := stN_at (n := n) (t := t) (f := 12) (p := 0) (k := k) (by omega)
    rw [Nat.zero_add] at hd
    unfold stp at hd
    rw [if_pos hk] at hd
    rw [hd]
    rfl
theorem all_s (p : Nat → Bool) (n : Nat) : (List.range (n + 1)).all p = ((List.range n).all p && p n) := by
  rw [List.range_succ, List.all_append]
  simp
set_option maxRecDepth 4000 in
theorem qX12_doRiver_n {G : GX} {w : WS} {x y : Int32} {n : Nat} (hx : out_ 64 x) : Big G 7 0 mX12_doRiver [.ref 115, .int x, .int y, .int (nI n)] w (.inl (some (.int (nI 0)))) (wT w 1) := by
  refine big_of (by decide +kernel) (Nat.le_of_ble_eq_true rfl) ?_
  show Ev G 7 0 mX12_doRiver 0 [some (.ref 115), some (.int x), some (.int y), some (.int (nI n)), none, none] [] w _
  refine ev_iload_n dX12_doRiver_0 rfl ?_
  refine ev_callS kX12_78 (qX12_isCell_n hx) dX12_doRiver_1 rfl (by decide) (by decide) rfl ?_
  refine ev_if_ne_f (tgt := 13) dX12_doRiver_4 (by decide) rfl ?_
  refine ev_aload_n dX12_doRiver_7 rfl ?_
  refine ev_iconst dX12_doRiver_8 ic1 ?_
  refine ev_callV kX12_82 co115 qX12_fails dX12_doRiver_9 rfl (by decide) (by decide) rfl ?_
  exact ev_iret dX12_doRiver_12 rfl rfl rfl rfl
set_option maxRecDepth 4000 in
theorem qX12_doRiver_m {G : GX} {w : WS} {c : Nat} {y : Int32} {n : Nat} (hc : c < 64) (hy : out_ 100 y) : Big G 7 0 mX12_doRiver [.ref 115, .int (nI c), .int y, .int (nI n)] w (.inl (some (.int (nI 0)))) (wT w 2) := by
  refine big_of (by decide +kernel) (Nat.le_of_ble_eq_true rfl) ?_
  show Ev G 7 0 mX12_doRiver 0 [some (.ref 115), some (.int (nI c)), some (.int y), some (.int (nI n)), none, none] [] w _
  refine ev_iload_n dX12_doRiver_0 rfl ?_
  refine ev_callS kX12_78 (qX12_isCell_y hc) dX12_doRiver_1 rfl (by decide) (by decide) rfl ?_
  refine ev_if_ne_t (tgt := 13) dX12_doRiver_4 (by decide) (by decide) ?_
  refine ev_iload_n dX12_doRiver_13 rfl ?_
  refine ev_iconst dX12_doRiver_14 ic0 ?_
  refine ev_bipush (v := nI 99) dX12_doRiver_15 (by decide) ?_
  refine ev_callS kX12_63 (qX12_in_f (out_hi (by decide) hy)) dX12_doRiver_17 rfl (by decide) (by decide) rfl ?_
  refine ev_if_ne_f (tgt := 29) dX12_doRiver_20 (by decide) rfl ?_
  refine ev_aload_n dX12_doRiver_23 rfl ?_
  refine ev_iconst dX12_doRiver_24 ic2 ?_
  refine ev_callV kX12_82 co115 qX12_fails dX12_doRiver_25 rfl (by decide) (by decide) rfl ?_
  exact ev_iret dX12_doRiver_28 rfl rfl rfl rfl
def pRi (S : ST) (n : Nat) (t : Nat → Nat) (c r : Nat) (w : WS) : OT → WS → Prop := (fun o w2 => (arS n t = false → o = .inl (some (.int (nI 0))) ∧ w2 = wT w 3) ∧ (arS n t = true → pDo S (.inr (.inr (.inr (.inl (c, r, stN n t 12 0, stD n t 0))))) 4 w o w2))
set_option maxRecDepth 4000 in
theorem qX12_doRiver {G : GX} {w : WS} {S : ST} (hS : mR S w) {n : Nat} {t : Nat → Nat} (hn : n ≤ 60) (htx : ∀ i, i < n → w.1 123 i = nI (t i) ∧ t i ≤ 126) {c r : Nat} (hc : c < 64) (hr : r < 100) : ∃ o w2, (pRi S n t c r w o w2) ∧ Big G 7 0 mX12_doRiver [.ref 115, .int (nI c), .int (nI r), .int (nI n)] w o w2 := by
  refine bx_of (P := pRi S n t c r w) (by decide +kernel) (Nat.le_of_ble_eq_true rfl) ?_
  show Ex G 7 0 mX12_doRiver 0 [some (.ref 115), some (.int (nI c)), some (.int (nI r)), some (.int (nI n)), none, none] [] w _
  refine ex_s (fun _ => ev_iload_n dX12_doRiver_0 rfl) ?_
  refine ex_s (fun _ => ev_callS kX12_78 (qX12_isCell_y hc) dX12_doRiver_1 rfl (by decide) (by decide) rfl) ?_
  refine ex_s (fun _ => ev_if_ne_t (tgt := 13) dX12_doRiver_4 (by decide) (by decide)) ?_
  refine ex_s (fun _ => ev_iload_n dX12_doRiver_13 rfl) ?_
  refine ex_s (fun _ => ev_iconst dX12_doRiver_14 ic0) ?_
  refine ex_s (fun _ => ev_bipush (v := nI 99) dX12_doRiver_15 (by decide)) ?_
  refine ex_s (fun _ => ev_callS kX12_63 (qX12_in_t (nI_le (Nat.zero_le _) (by omega)) (nI_le (by omega) (by decide))) dX12_doRiver_17 rfl (by decide) (by decide) rfl) ?_
  refine ex_s (fun _ => ev_if_ne_t (tgt := 29) dX12_doRiver_20 (by decide) (by decide)) ?_
  refine ex_s (fun _ => ev_iload_n dX12_doRiver_29 rfl) ?_
  refine ex_s (fun _ => ev_iconst dX12_doRiver_30 ic1) ?_
  refine ex_s (fun _ => ev_bipush (v := nI 12) dX12_doRiver_31 (by decide)) ?_
  refine ex_s (fun _ => ev_callS kX12_63 qX12_in dX12_doRiver_33 rfl (by decide) (by decide) rfl) ?_
  refine ex_s (fun _ => ev_top (y := bI (decide (1 ≤ n ∧ n ≤ 12) && (List.range 0).all (fun k => (dO_ (t k)).isSome))) (by rw [show (decide (nI 1 ≤ nI n ∧ nI n ≤ nI 12)) = decide (1 ≤ n ∧ n ≤ 12) from decide_eq_decide.mpr (and_congr (pk_le' (by decide) (by omega)) (pk_le' (by omega) (by decide)))]; simp)) ?_
  refine ex_s (fun _ => ev_ist4 dX12_doRiver_36 (by decide) rfl) ?_
  refine ex_s (fun _ => ev_iconst dX12_doRiver_38 ic0) ?_
  refine ex_s (fun _ => ev_ist5 dX12_doRiver_39 (by decide) rfl) ?_
  have hend : Ex G 7 0 mX12_doRiver 80 [some (.ref 115), some (.int (nI c)), some (.int (nI r)), some (.int (nI n)), some (.int (bI (arS n t))), some (.int (nI n))] [] w (pRi S n t c r w) := by
    refine ex_s (fun _ => ev_iload dX12_doRiver_80 rfl) ?_
    refine ex_b0 (fun _ => ev_ifb_eq (tgt := 97) dX12_doRiver_82 (by decide)) (fun hc82 => ?_) (fun hc82 => ?_)
    · refine ex_s (fun _ => ev_aload_n dX12_doRiver_97 rfl) ?_
      refine ex_s (fun _ => ev_iconst dX12_doRiver_98 ic3) ?_
      refine ex_s (fun _ => ev_callV kX12_82 co115 qX12_fails dX12_doRiver_99 rfl (by decide) (by decide) rfl) ?_
      exact ⟨_, _, (by exact ⟨fun _ => ⟨rfl, rfl⟩, fun z => (by rw [show arS n t = false from hc82] at z; cases z)⟩), ev_iret dX12_doRiver_102 rfl rfl rfl rfl⟩
    · refine ex_s (fun _ => ev_aload_n dX12_doRiver_85 rfl) ?_
      refine ex_s (fun _ => ev_iload_n dX12_doRiver_86 rfl) ?_
      refine ex_s (fun _ => ev_iload_n dX12_doRiver_87 rfl) ?_
      refine ex_s (fun _ => ev_iconst dX12_doRiver_88 ic0) ?_
      refine ex_s (fun _ => ev_iload_n dX12_doRiver_89 rfl) ?_
      refine ex_s (fun _ => ev_iconst dX12_doRiver_90 ic4) ?_
      have hs := (arS_eq n t).mp hc82
      have hl12 := (stN_le (n := n) (t := t) (f := 12) (p := 0) (Nat.zero_le _)).1
      obtain ⟨o, w3, hp3, hB3⟩ := qX12_draws (G := G) (w := w) hS hc (t := r) (by omega) (fr := 0) hs.1 hl12 (by omega) (ds := stD n t 0) (fun k hk => by
        obtain ⟨h1, h2⟩ := stD_at (n := n) (t := t) (f := 12) (p := 0) hk
        rw [Nat.zero_add] at h1
        refine ⟨⟨t k, by have := (htx k (by omega)).2; omega, by rw [Nat.zero_add]; exact (htx k (by omega)).1, ?_⟩, h2⟩
        unfold stp at h1
        rw [if_pos (by omega)] at h1
        exact h1)
      rw [hs.2] at hB3 hp3
      obtain ⟨v, rfl, -⟩ := id hp3.1
      refine ex_s (fun _ => ev_callV kX12_132 co115 hB3 dX12_doRiver_91 rfl (by decide) (by decide) rfl) ?_
      refine ex_s (fun _ => ev_goto (tgt := 102) dX12_doRiver_94 (by decide)) ?_
      exact ⟨_, _, (by exact ⟨fun z => (by rw [show arS n t = true from hc82] at z; cases z), fun _ => by rw [hs.2]; exact hp3⟩), ev_iret dX12_doRiver_102 rfl rfl rfl rfl⟩
  have lp : ∀ (n9 j : Nat) , j + n9 = n → Ex G 7 0 mX12_doRiver 41 [some (.ref 115), some (.int (nI c)), some (.int (nI r)), some (.int (nI n)), some (.int (bI (decide (1 ≤ n ∧ n ≤ 12) && (List.range j).all (fun k => (dO_ (t k)).isSome)))), some (.int (nI j))] [] w (pRi S n t c r w) := by
    intro n9
    induction n9 with
    | zero =>
      intro j  hi9 
      refine ex_s (fun _ => ev_iload dX12_doRiver_41 rfl) ?_
      refine ex_s (fun _ => ev_iload_n dX12_doRiver_43 rfl) ?_
      refine ex_s (fun _ => ev_icmp_ge_t (tgt := 80) dX12_doRiver_44 (by decide) (nI_le (by omega) (by omega))) ?_
      obtain rfl : j = n := by omega
      exact hend
    | succ n9 ih =>
      intro j  hi9 
      refine ex_s (fun _ => ev_iload dX12_doRiver_41 rfl) ?_
      refine ex_s (fun _ => ev_iload_n dX12_doRiver_43 rfl) ?_
      refine ex_s (fun _ => ev_icmp_ge_f (tgt := 80) dX12_doRiver_44 (by decide) (nI_ge (by omega) (by omega))) ?_
      refine ex_s (fun _ => ev_iload dX12_doRiver_47 rfl) ?_
      refine ex_b0 (fun _ => ev_ifb_eq (tgt := 71) dX12_doRiver_49 (by decide)) (fun hc49 => ?_) (fun hc49 => ?_)
      · refine ex_s (fun _ => ev_iconst dX12_doRiver_71 ic0) ?_
        refine ex_s (fun _ => ev_top (y := bI (decide (1 ≤ n ∧ n ≤ 12) && (List.range (j + 1)).all (fun k => (dO_ (t k)).isSome))) (by rw [all_s, ← Bool.and_assoc, hc49]; rfl)) ?_
        refine ex_s (fun _ => ev_ist4 dX12_doRiver_72 (by decide) rfl) ?_
        refine ex_s (fun _ => ev_iinc5 dX12_doRiver_74 (nI_inc _) (by decide) rfl) ?_
        refine ex_s (fun _ => ev_goto (tgt := 41) dX12_doRiver_77 (by decide)) ?_
        exact ih (j + 1) (by omega)
      · refine ex_s (fun _ => ev_ldc_nesw rfl dX12_doRiver_52) ?_
        refine ex_s (fun _ => ev_aload_n dX12_doRiver_54 rfl) ?_
        refine ex_s (fun _ => ev_getR fX12_33 dX12_doRiver_55 (by decide) sh115 rfl) ?_
        refine ex_s (fun _ => ev_iload dX12_doRiver_58 rfl) ?_
        refine ex_s (fun _ => ev_caload dX12_doRiver_60 rfl (by omega) (by decide) sh123) ?_
        refine ex_s (fun _ => ev_top (htx j (by omega)).1) ?_
        refine ex_s (fun _ => ev_callVs (i := 0) kX12_127 (by decide) rfl (qJ0_indexOf_0 (n := t j) (by have := (htx j (by omega)).2; omega)) dX12_doRiver_61 rfl (by decide) (by decide) rfl) ?_
        refine ex_bp (fun _ => ev_if_lt (tgt := 71) dX12_doRiver_64 (by decide)) (fun hc64 => ?_) (fun hc64 => ?_)
        · have e64 : (dO_ (t j)).isSome = false := by rw [(oI_lt (fun k hk => by have := dO_lt hk; omega)).mp hc64]; rfl
          refine ex_s (fun _ => ev_iconst dX12_doRiver_71 ic0) ?_
          refine ex_s (fun _ => ev_top (y := bI (decide (1 ≤ n ∧ n ≤ 12) && (List.range (j + 1)).all (fun k => (dO_ (t k)).isSome))) (by rw [all_s, ← Bool.and_assoc, hc49, e64]; rfl)) ?_
          refine ex_s (fun _ => ev_ist4 dX12_doRiver_72 (by decide) rfl) ?_
          refine ex_s (fun _ => ev_iinc5 dX12_doRiver_74 (nI_inc _) (by decide) rfl) ?_
          refine ex_s (fun _ => ev_goto (tgt := 41) dX12_doRiver_77 (by decide)) ?_
          exact ih (j + 1) (by omega)
        · have e64 : (dO_ (t j)).isSome = true := by
            cases e : dO_ (t j) with
            | none => rw [e] at hc64; exact absurd (by decide) hc64
            | some y => rfl
          refine ex_s (fun _ => ev_iconst dX12_doRiver_67 ic1) ?_
          refine ex_s (fun _ => ev_goto (tgt := 72) dX12_doRiver_68 (by decide)) ?_
          refine ex_s (fun _ => ev_top (y := bI (decide (1 ≤ n ∧ n ≤ 12) && (List.range (j + 1)).all (fun k => (dO_ (t k)).isSome))) (by rw [all_s, ← Bool.and_assoc, hc49, e64]; rfl)) ?_
          refine ex_s (fun _ => ev_ist4 dX12_doRiver_72 (by decide) rfl) ?_
          refine ex_s (fun _ => ev_iinc5 dX12_doRiver_74 (nI_inc _) (by decide) rfl) ?_
          refine ex_s (fun _ => ev_goto (tgt := 41) dX12_doRiver_77 (by decide)) ?_
          exact ih (j + 1) (by omega)
  exact lp n 0 (Nat.zero_add _)
set_option maxRecDepth 4000 in
theorem qX12_keep {G : GX} {w : WS} : Big G 1 0 mX12_keep [.ref 115] w (.inl none) (cs_ (wT w 0) 117 (va_cpy (w.1 116) (w.1 117) 0 0 158)) := by
  refine big_of (by decide +kernel) (Nat.le_of_ble_eq_true rfl) ?_
  show Ev G 1 0 mX12_keep 0 [some (.ref 115)] [] w _
  refine ev_aload_n dX12_keep_0 rfl ?_
  refine ev_iconst dX12_keep_1 ic0 ?_
  refine ev_put fX12_43 dX12_keep_2 rfl rfl (by decide) sh115 rfl ?_
  refine ev_w (w' := wT w 0) rfl ?_
  refine ev_aload_n dX12_keep_5 rfl ?_
  refine ev_getR fX12_9 dX12_keep_6 (by decide) sh115 rfl ?_
  refine ev_iconst dX12_keep_9 ic0 ?_
  refine ev_aload_n dX12_keep_10 rfl ?_
  refine ev_getR fX12_13 dX12_keep_11 (by decide) sh115 rfl ?_
  refine ev_iconst dX12_keep_14 ic0 ?_
  refine ev_sipush (v := nI 158) dX12_keep_15 (by decide) ?_
  refine ev_copy aX12_46 dX12_keep_18 rfl rfl rfl (by decide) (by decide) sh116 sh117 (by omega) (by omega) rfl ?_
  exact ev_vret dX12_keep_21 rfl rfl rfl
/-- the past of the reference -/
def hM (H : List ST) (w : WS) : Prop := w.1 115 5 = nI H.length ∧ H.length ≤ 6 ∧ ∀ i T, H[i]? = some T → rA T (fun k => w.1 119 (158 * i + k)) ∧ okS T
def wE (w : WS) (m : Nat) : WS := if m < 6 then cs_ (cs_ w 119 (va_cpy (w.1 117) (w.1 119) 0 (158 * m) 158)) 115 (upd (w.1 115) 5 (nI (m + 1)))
  else cs_ (cs_ w 119 (va_cpy (w.1 117) (va_cpy (w.1 119) (w.1 119) 158 0 790) 0 790 158)) 115 (upd (w.1 115) 5 (nI 6))
theorem hM_E {H : List ST} {w : WS} {S : ST} (h : hM H w) (hb : rA S (w.1 117)) (hk : okS S) : hM (hPush H S) (wE w H.length) := by
  obtain ⟨h1, h2, h3⟩ := h
  unfold hPush wE
  by_cases e : H.length < 6
  · rw [if_pos e, if_pos e]
    refine ⟨by rw [List.length_append]; rfl, by rw [List.length_append]; show H.length + 1 ≤ 6; omega, fun i T hT => ?_⟩
    rw [List.getElem?_append] at hT
    split at hT
    · rename_i hi
      obtain ⟨g1, g2⟩ := h3 i T hT
      refine ⟨rA_eq g1 g2 (fun k hk2 => ?_), g2⟩
      show va_cpy (w.1 117) (w.1 119) 0 (158 * H.length) 158 (158 * i + k) = w.1 119 (158 * i + k)
      rw [pk_cpy_out (Or.inl (by omega))]
    · rw [List.getElem?_singleton] at hT
      split at hT
      · cases hT
        obtain rfl : i = H.length := by omega
        refine ⟨rA_eq hb hk (fun k hk2 => ?_), hk⟩
        show va_cpy (w.1 117) (w.1 119) 0 (158 * H.length) 158 (158 * H.length + k) = w.1 117 k
        rw [pk_cpy_in (by omega) (by omega), show 0 + (158 * H.length + k - 158 * H.length) = k by omega]
      · cases hT
  · rw [if_neg e, if_neg e]
    refine ⟨?_, by rw [List.length_append, List.length_tail]; show H.length - 1 + 1 ≤ 6; omega, fun i T hT => ?_⟩
    · rw [List.length_append, List.length_tail]
      show nI 6 = _
      congr 1
      show 6 = H.length - 1 + 1
      omega
    rw [List.getElem?_append, List.length_tail] at hT
    split at hT
    · rename_i hi
      rw [List.getElem?_tail] at hT
      obtain ⟨g1, g2⟩ := h3 (i + 1) T hT
      refine ⟨rA_eq g1 g2 (fun k hk2 => ?_), g2⟩
      show va_cpy (w.1 117) (va_cpy (w.1 119) (w.1 119) 158 0 790) 0 790 158 (158 * i + k) = w.1 119 (158 * (i + 1) + k)
      rw [pk_cpy_out (Or.inl (by omega)), pk_cpy_in (by omega) (by omega), show 158 + (158 * i + k - 0) = 158 * (i + 1) + k by omega]
    · rw [List.getElem?_singleton] at hT
      split at hT
      · cases hT
        obtain rfl : i = 5 := by omega
        refine ⟨rA_eq hb hk (fun k hk2 => ?_), hk⟩
        show va_cpy (w.1 117) (va_cpy (w.1 119) (w.1 119) 158 0 790) 0 790 158 (158 * 5 + k) = w.1 117 k
        rw [pk_cpy_in (by omega) (by omega), show 0 + (158 * 5 + k - 790) = k by omega]
      · cases hT
theorem fr_wE {w : WS} {m : Nat} : frG [(115, 115), (119, 119)] w (wE w m) := by
  unfold wE
  split
  · exact frG_cs (frG_cs frG_rf (by decide) _) (by decide) _
  · exact frG_cs (frG_cs frG_rf (by decide) _) (by decide) _
theorem wE_s {w : WS} {m j : Nat} (hj : j ≠ 5) : (wE w m).1 115 j = w.1 115 j := by
  unfold wE
  split
  · show upd (w.1 115) 5 _ j = _
    exact pk_un hj
  · show upd (w.1 115) 5 _ j = _
    exact pk_un hj
set_option maxRecDepth 4000 in
theorem qX12_ends_n {G : GX} {w : WS} {k : Nat} {v : Int32} (ht : w.1 115 6 = nI k) (h1 : 1 ≤ k) (h9 : k < 10) : Big G 1 0 mX12_ends [.ref 115, .int v] w (.inl (some (.int (nI 0)))) (cs_ w 116 (va_cpy (w.1 117) (w.1 116) 0 0 158)) := by
  refine big_of (by decide +kernel) (Nat.le_of_ble_eq_true rfl) ?_
  show Ev G 1 0 mX12_ends 0 [some (.ref 115), some (.int v)] [] w _
  refine ev_aload_n dX12_ends_0 rfl ?_
  refine ev_getI fX12_43 dX12_ends_1 (by decide) sh115 rfl ?_
  refine ev_top ht ?_
  refine ev_if_le_f (tgt := 25) dX12_ends_4 (by decide) (fun q => by have := (le0 (by omega)).mp q; omega) ?_
  refine ev_aload_n dX12_ends_7 rfl ?_
  refine ev_getR fX12_13 dX12_ends_8 (by decide) sh115 rfl ?_
  refine ev_iconst dX12_ends_11 ic0 ?_
  refine ev_aload_n dX12_ends_12 rfl ?_
  refine ev_getR fX12_9 dX12_ends_13 (by decide) sh115 rfl ?_
  refine ev_iconst dX12_ends_16 ic0 ?_
  refine ev_sipush (v := nI 158) dX12_ends_17 (by decide) ?_
  refine ev_copy aX12_46 dX12_ends_20 rfl rfl rfl (by decide) (by decide) sh117 sh116 (by omega) (by omega) rfl ?_
  refine ev_iconst dX12_ends_23 ic0 ?_
  exact ev_iret dX12_ends_24 rfl rfl rfl rfl
theorem wE_x (w : WS) : cs_ (cs_ w 119 (va_cpy (w.1 117) (va_cpy (w.1 119) (w.1 119) 158 0 790) 0 790 158)) 115 (upd (w.1 115) 5 (nI 6)) = cs_ (cs_ (cs_ (cs_ w 119 (va_cpy (w.1 119) (w.1 119) 158 0 790)) 115 (upd (w.1 115) 5 (nI 5))) 119 (va_cpy ((cs_ (cs_ w 119 (va_cpy (w.1 119) (w.1 119) 158 0 790)) 115 (upd (w.1 115) 5 (nI 5))).1 117) ((cs_ (cs_ w 119 (va_cpy (w.1 119) (w.1 119) 158 0 790)) 115 (upd (w.1 115) 5 (nI 5))).1 119) 0 (158 * 5) 158)) 115 (upd ((cs_ (cs_ w 119 (va_cpy (w.1 119) (w.1 119) 158 0 790)) 115 (upd (w.1 115) 5 (nI 5))).1 115) 5 (nI 6)) := by
  apply ws_eq
  · intro k
    by_cases h1 : k = 115
    · subst h1
      rw [cs_same, cs_same]
      funext j
      show upd (w.1 115) 5 (nI 6) j = upd (upd (w.1 115) 5 (nI 5)) 5 (nI 6) j
      unfold upd
      split <;> rfl
    · rw [cs_ne _ _ h1, cs_ne _ _ h1]
      by_cases h2 : k = 119
      · subst h2; rw [cs_same, cs_same]; rfl
      · rw [cs_ne _ _ h2, cs_ne _ _ h2, cs_ne _ _ h1, cs_ne _ _ h2]
  · rfl
set_option maxRecDepth 4000 in
theorem qX12_ends_y {G : GX} {w : WS} {m : Nat} {v : Int32} (ht : w.1 115 6 = nI 0) (hm : w.1 115 5 = nI m) (h6 : m ≤ 6) : Big G 1 0 mX12_ends [.ref 115, .int v] w (.inl (some (.int (v)))) (wE w m) := by
  refine big_of (by decide +kernel) (Nat.le_of_ble_eq_true rfl) ?_
  show Ev G 1 0 mX12_ends 0 [some (.ref 115), some (.int v)] [] w _
  refine ev_aload_n dX12_ends_0 rfl ?_
  refine ev_getI fX12_43 dX12_ends_1 (by decide) sh115 rfl ?_
  refine ev_top ht ?_
  refine ev_if_le_t (tgt := 25) dX12_ends_4 (by decide) (by decide) ?_
  refine ev_aload_n dX12_ends_25 rfl ?_
  refine ev_getI fX12_52 dX12_ends_26 (by decide) sh115 rfl ?_
  refine ev_top hm ?_
  refine ev_bipush (v := nI 6) dX12_ends_29 (by decide) ?_
  refine ev_icmp_ne (tgt := 62) dX12_ends_31 (by decide) (fun hc31 => ?_) (fun hc31 => ?_)
  · have e31 : m < 6 := by have : m ≠ 6 := fun z => hc31 (by rw [z]); omega
    refine ev_aload_n dX12_ends_62 rfl ?_
    refine ev_getR fX12_13 dX12_ends_63 (by decide) sh115 rfl ?_
    refine ev_iconst dX12_ends_66 ic0 ?_
    refine ev_aload_n dX12_ends_67 rfl ?_
    refine ev_getR fX12_19 dX12_ends_68 (by decide) sh115 rfl ?_
    refine ev_sipush (v := nI 158) dX12_ends_71 (by decide) ?_
    refine ev_aload_n dX12_ends_74 rfl ?_
    refine ev_getI fX12_52 dX12_ends_75 (by decide) sh115 rfl ?_
    refine ev_top hm ?_
    refine ev_imul dX12_ends_78 ?_
    first | refine ev_top (pk_mul _ _) ?_ | skip
    refine ev_sipush (v := nI 158) dX12_ends_79 (by decide) ?_
    refine ev_copy aX12_46 dX12_ends_82 rfl rfl rfl (by decide) (by decide) sh117 sh119 (by omega) (by omega) rfl ?_
    refine ev_aload_n dX12_ends_85 rfl ?_
    refine ev_dup dX12_ends_86 rfl ?_
    refine ev_getI fX12_52 dX12_ends_87 (by decide) sh115 rfl ?_
    refine ev_top hm ?_
    refine ev_iconst dX12_ends_90 ic1 ?_
    refine ev_iadd dX12_ends_91 ?_
    first | refine ev_top (nI_add _ _) ?_ | skip
    refine ev_put fX12_52 dX12_ends_92 rfl rfl (by decide) sh115 rfl ?_
    refine ev_iload_n dX12_ends_95 rfl ?_
    exact ev_iret dX12_ends_96 rfl rfl rfl (by unfold wE; rw [if_pos e31]; rfl)
  · have e31 : m = 6 := nI_inj (by omega) (by decide) hc31
    subst e31
    refine ev_aload_n dX12_ends_34 rfl ?_
    refine ev_getR fX12_19 dX12_ends_35 (by decide) sh115 rfl ?_
    refine ev_sipush (v := nI 158) dX12_ends_38 (by decide) ?_
    refine ev_aload_n dX12_ends_41 rfl ?_
    refine ev_getR fX12_19 dX12_ends_42 (by decide) sh115 rfl ?_
    refine ev_iconst dX12_ends_45 ic0 ?_
    refine ev_sipush (v := nI 790) dX12_ends_46 (by decide) ?_
    refine ev_copy aX12_46 dX12_ends_49 rfl rfl rfl (by decide) (by decide) sh119 sh119 (by omega) (by omega) rfl ?_
    refine ev_aload_n dX12_ends_52 rfl ?_
    refine ev_dup dX12_ends_53 rfl ?_
    refine ev_getI fX12_52 dX12_ends_54 (by decide) sh115 rfl ?_
    refine ev_top hm ?_
    refine ev_iconst dX12_ends_57 ic1 ?_
    refine ev_isub dX12_ends_58 ?_
    first | refine ev_top (pk_sub (by omega)) ?_ | skip
    refine ev_put fX12_52 dX12_ends_59 rfl rfl (by decide) sh115 rfl ?_
    refine ev_w (w' := (cs_ (cs_ w 119 (va_cpy (w.1 119) (w.1 119) 158 0 790)) 115 (upd (w.1 115) 5 (nI 5)))) rfl ?_
    refine ev_aload_n dX12_ends_62 rfl ?_
    refine ev_getR fX12_13 dX12_ends_63 (by decide) sh115 rfl ?_
    refine ev_iconst dX12_ends_66 ic0 ?_
    refine ev_aload_n dX12_ends_67 rfl ?_
    refine ev_getR fX12_19 dX12_ends_68 (by decide) sh115 rfl ?_
    refine ev_sipush (v := nI 158) dX12_ends_71 (by decide) ?_
    refine ev_aload_n dX12_ends_74 rfl ?_
    refine ev_getI fX12_52 dX12_ends_75 (by decide) sh115 rfl ?_
    refine ev_top (y := nI 5) rfl ?_
    refine ev_imul dX12_ends_78 ?_
    first | refine ev_top (pk_mul _ _) ?_ | skip
    refine ev_sipush (v := nI 158) dX12_ends_79 (by decide) ?_
    refine ev_copy aX12_46 dX12_ends_82 rfl rfl rfl (by decide) (by decide) sh117 sh119 (by omega) (by omega) rfl ?_
    refine ev_aload_n dX12_ends_85 rfl ?_
    refine ev_dup dX12_ends_86 rfl ?_
    refine ev_getI fX12_52 dX12_ends_87 (by decide) sh115 rfl ?_
    refine ev_top (y := nI 5) rfl ?_
    refine ev_iconst dX12_ends_90 ic1 ?_
    refine ev_iadd dX12_ends_91 ?_
    first | refine ev_top (nI_add _ _) ?_ | skip
    refine ev_put fX12_52 dX12_ends_92 rfl rfl (by decide) sh115 rfl ?_
    refine ev_iload_n dX12_ends_95 rfl ?_
    exact ev_iret dX12_ends_96 rfl rfl rfl (by unfold wE; rw [if_neg (by decide)]; exact wE_x w)
