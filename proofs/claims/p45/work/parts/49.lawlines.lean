/-! the law's judgement of the lines -/
theorem sTx_eq : sTx = [[], [110, 101, 115, 119], [65, 66, 67, 68], [97, 98, 99, 100], [58], [110], [101], [115], [119], [61], [63], [120], [112], [98, 59, 112], [46], [59, 102], [59, 114, 57, 58, 101, 115, 61, 55]] := by decide +kernel
section
variable {G : GX} {T : va_W}
theorem ltx_0 : str_ G T 2000 [] := by
  have h := str_lit (G := G) (T := T) (i := 0) (by decide)
  rw [sTx_eq] at h
  exact h
theorem ltx_1 : str_ G T 2001 [110, 101, 115, 119] := by
  have h := str_lit (G := G) (T := T) (i := 1) (by decide)
  rw [sTx_eq] at h
  exact h
theorem ltx_2 : str_ G T 2002 [65, 66, 67, 68] := by
  have h := str_lit (G := G) (T := T) (i := 2) (by decide)
  rw [sTx_eq] at h
  exact h
theorem ltx_3 : str_ G T 2003 [97, 98, 99, 100] := by
  have h := str_lit (G := G) (T := T) (i := 3) (by decide)
  rw [sTx_eq] at h
  exact h
theorem ltx_4 : str_ G T 2004 [58] := by
  have h := str_lit (G := G) (T := T) (i := 4) (by decide)
  rw [sTx_eq] at h
  exact h
theorem ltx_5 : str_ G T 2005 [110] := by
  have h := str_lit (G := G) (T := T) (i := 5) (by decide)
  rw [sTx_eq] at h
  exact h
theorem ltx_6 : str_ G T 2006 [101] := by
  have h := str_lit (G := G) (T := T) (i := 6) (by decide)
  rw [sTx_eq] at h
  exact h
theorem ltx_7 : str_ G T 2007 [115] := by
  have h := str_lit (G := G) (T := T) (i := 7) (by decide)
  rw [sTx_eq] at h
  exact h
theorem ltx_8 : str_ G T 2008 [119] := by
  have h := str_lit (G := G) (T := T) (i := 8) (by decide)
  rw [sTx_eq] at h
  exact h
theorem ltx_9 : str_ G T 2009 [61] := by
  have h := str_lit (G := G) (T := T) (i := 9) (by decide)
  rw [sTx_eq] at h
  exact h
theorem ltx_10 : str_ G T 2010 [63] := by
  have h := str_lit (G := G) (T := T) (i := 10) (by decide)
  rw [sTx_eq] at h
  exact h
theorem ltx_11 : str_ G T 2011 [120] := by
  have h := str_lit (G := G) (T := T) (i := 11) (by decide)
  rw [sTx_eq] at h
  exact h
theorem ltx_12 : str_ G T 2012 [112] := by
  have h := str_lit (G := G) (T := T) (i := 12) (by decide)
  rw [sTx_eq] at h
  exact h
theorem ltx_13 : str_ G T 2013 [98, 59, 112] := by
  have h := str_lit (G := G) (T := T) (i := 13) (by decide)
  rw [sTx_eq] at h
  exact h
theorem ltx_14 : str_ G T 2014 [46] := by
  have h := str_lit (G := G) (T := T) (i := 14) (by decide)
  rw [sTx_eq] at h
  exact h
theorem ltx_15 : str_ G T 2015 [59, 102] := by
  have h := str_lit (G := G) (T := T) (i := 15) (by decide)
  rw [sTx_eq] at h
  exact h
theorem ltx_16 : str_ G T 2016 [59, 114, 57, 58, 101, 115, 61, 55] := by
  have h := str_lit (G := G) (T := T) (i := 16) (by decide)
  rw [sTx_eq] at h
  exact h
theorem sbI_1 {x : Nat → Nat → Int32} {a : Nat} {L : List Nat} {w : WS} (h : sbI G x T a L w) : w.1 = x := by
  obtain ⟨v, m, f, rfl, -⟩ := h
  rfl
theorem sbI_mv {x : Nat → Nat → Int32} {a : Nat} {L : List Nat} {w w2 : WS} (h : sbI G x T a L w) (e : w2.2 = w.2) : sbI G w2.1 T a L w2 := by
  obtain ⟨v, m, f, rfl, h2⟩ := h
  obtain ⟨x2, t2⟩ := w2
  cases e
  exact ⟨v, m, f, rfl, h2⟩
theorem stI_u {x : Nat → Nat → Int32} {s : Nat} {L : List Nat} {w : WS} (h : stI G x T s L w) : w.1 = x ∧ T.Sublist w.2 ∧ str_ G w.2 (10000 + s) L ∧ ∀ q ∈ T, q ∈ w.2 := by
  have h2 := stI_str h
  obtain ⟨z, g, rfl, h3⟩ := h
  exact ⟨rfl, List.sublist_append_left _ _, h2, fun q hq => List.mem_append_left _ hq⟩
end
def setL (A : AS) (L : List Nat) : AS := mkA (aS A) (aV A) (aH A) (aN A) (aT A) L (aK A) (aE A)
theorem sp_row {A : AS} {y : Nat} (hy : y < 8) : spRow A (nI y) = ((0, nI (rowL (aS A) y 8).length), setL A (rowL (aS A) y 8)) := by
  unfold spRow
  rw [ixN_y hy (by decide), rowL_n]
  rfl
theorem sp_row8 {A : AS} : spRow A (nI 8) = ((1, 0), A) := by
  unfold spRow
  rw [ixN_n (n := 8) (k := 8) (by decide) (by decide)]
theorem sp_tell {A : AS} (ho : okS (aS A)) {i : Nat} (hi : i < nR (aS A)) : spTell A (nI i) = ((0, nI (telL (aS A) i).length), setL A (telL (aS A) i)) := by
  unfold spTell
  rw [ixN_y hi (nR_lt ho)]
  rfl
theorem sp_telln {A : AS} (ho : okS (aS A)) : spTell A (nI (nR (aS A))) = ((1, 0), A) := by
  unfold spTell
  rw [ixN_n (Nat.le_refl _) (nR_lt ho)]
/-- whether one of the first n dragons sits at c -/
def dB (S : ST) (c n : Nat) : Bool := (List.range n).any (fun i => dC S i == c)
theorem dB_s (S : ST) (c n : Nat) : dB S c (n + 1) = (dB S c n || dC S n == c) := by
  unfold dB
  rw [List.range_succ, List.any_append]
  simp
theorem dB_on (S : ST) (c : Nat) : dB S c (nD S) = (dOn S c).isSome := by
  unfold dB dOn
  cases e : (List.range (nD S)).find? (fun i => dC S i == c) with
  | none =>
    show ((List.range (nD S)).any (fun i => dC S i == c)) = false
    rw [List.any_eq_false]
    exact fun x hx => List.find?_eq_none.mp e x hx
  | some i => exact List.any_eq_true.mpr ⟨i, List.mem_of_find?_eq_some e, List.find?_some (p := fun i => dC S i == c) e⟩
theorem chr_u {c : Nat} (hc : c < 4) : nI (([65, 66, 67, 68] : List Nat).getD c 0) = nI (65 + c) := by
  obtain rfl | rfl | rfl | rfl : c = 0 ∨ c = 1 ∨ c = 2 ∨ c = 3 := by omega
  all_goals rfl
theorem chr_l {c : Nat} (hc : c < 4) : nI (([97, 98, 99, 100] : List Nat).getD c 0) = nI (97 + c) := by
  obtain rfl | rfl | rfl | rfl : c = 0 ∨ c = 1 ∨ c = 2 ∨ c = 3 := by omega
  all_goals rfl
theorem stp_t : ∀ x : Fin 64, ∀ d : Fin 4, (nb x.val d.val).all (fun y => nI y - nI x.val == (if d.val = 0 then -8 else if d.val = 1 then nI 1 else if d.val = 2 then nI 8 else -1)) = true := by decide +kernel
theorem stp_v {x y d : Nat} (hx : x < 64) (hd : d < 4) (h : nb x d = some y) : nI y - nI x = (if d = 0 then -8 else if d = 1 then nI 1 else if d = 2 then nI 8 else -1) := by
  have t := stp_t ⟨x, hx⟩ ⟨d, hd⟩
  rw [show nb (⟨x, hx⟩ : Fin 64).val (⟨d, hd⟩ : Fin 4).val = some y from h] at t
  exact eq_of_beq t
set_option maxRecDepth 8000 in
theorem gL_lines_k {G : GX} {A : AS} {S : ST} {bb : Nat} (hS : aS A = S) (ho : okS S) {y x : Nat} (hy : y < 8) (hx : x < 8) {v2 : Option Value} {T2 : va_W} {Z : ZT}
    (K : ∀ (w : WS), aX A w → w.2 = T2 → Ev G 22 bb mL_lines 69 [some (.ref 0), some (.int (nI y)), v2, some (.int (nI x)), some (.int (bI (dB S (8 * y + x) (nD S)))), some (.int (nI (nD S)))] [] w Z) :
    ∀ (n k : Nat) (w : WS), k + n = nD S → aX A w → w.2 = T2 → Ev G 22 (2 * n + 1 + bb) mL_lines 25 [some (.ref 0), some (.int (nI y)), v2, some (.int (nI x)), some (.int (bI (dB S (8 * y + x) k))), some (.int (nI k))] [] w Z := by
  have hn5 := ho.2.2.1.1
  intro n
  induction n with
  | zero =>
    intro k w hk hX hT
    obtain rfl : k = nD S := by omega
    refine ev_iload dL_lines_25 rfl ?_
    refine ev_aload_n dL_lines_27 rfl ?_
    refine ev_iconst dL_lines_28 ic2 ?_
    refine ev_qc kL_255 co0 (as := [.int (nI 2)]) (rest := [.int (nI (nD S))]) (fX11_account_y (G := G) hX (i := 2) (by omega)) dL_lines_29 rfl (by decide) (by omega) rfl (fun w2 hX hT2 => ?_)
    rw [show acV A 2 = nI (nD (aS A)) from rfl, hS]
    replace hT := hT2.trans hT
    refine ev_icmp_ge_t (tgt := 69) dL_lines_32 (by decide) (Int32.le_refl _) ?_
    exact ev_bu _ (by omega) (K w2 hX hT)
  | succ n ih =>
    intro k w hkn hX hT
    have hk : k < nD S := by omega
    have c64 := (ho.2.2.1.2.1 k hk).1
    have at61 : ∀ (w : WS) (B : Bool), B = dB S (8 * y + x) (k + 1) → aX A w → w.2 = T2 → Ev G 22 (2 * n + 1 + bb) mL_lines 61 [some (.ref 0), some (.int (nI y)), v2, some (.int (nI x)), some (.int (bI (dB S (8 * y + x) k))), some (.int (nI k))] [.int (bI B)] w Z := by
      intro w B hB hX hT
      subst hB
      refine ev_ist4 dL_lines_61 (by decide) rfl ?_
      refine ev_iinc5 dL_lines_63 (nI_inc _) (by decide) rfl ?_
      refine ev_goto (tgt := 25) dL_lines_66 (by decide) ?_
      exact ih (k + 1) w (by omega) hX hT
    refine ev_iload dL_lines_25 rfl ?_
    refine ev_aload_n dL_lines_27 rfl ?_
    refine ev_iconst dL_lines_28 ic2 ?_
    refine ev_qc kL_255 co0 (as := [.int (nI 2)]) (rest := [.int (nI k)]) (fX11_account_y (G := G) hX (i := 2) (by omega)) dL_lines_29 rfl (by decide) (by omega) rfl (fun w2 hX hT2 => ?_)
    rw [show acV A 2 = nI (nD (aS A)) from rfl, hS]
    replace hT := hT2.trans hT
    refine ev_icmp_ge_f (tgt := 69) dL_lines_32 (by decide) (nI_ge hk (by omega)) ?_
    refine ev_iload dL_lines_35 rfl ?_
    cases hB : dB S (8 * y + x) k with
    | true =>
      rw [hB] at at61
      refine ev_if_ne_t (tgt := 56) dL_lines_37 (by decide) (by decide) ?_
      refine ev_iconst dL_lines_56 ic1 ?_
      refine ev_goto (tgt := 61) dL_lines_57 (by decide) ?_
      exact ev_bu _ (by omega) (at61 _ true (by rw [dB_s, hB]; rfl) hX hT)
    | false =>
      rw [hB] at at61
      refine ev_if_ne_f (tgt := 56) dL_lines_37 (by decide) rfl ?_
      refine ev_aload_n dL_lines_40 rfl ?_
      refine ev_iload dL_lines_41 rfl ?_
      refine ev_iconst dL_lines_43 ic0 ?_
      refine ev_q kL_298 (as := [.ref 0, .int (nI k), .int (nI 0)]) (rest := []) (hL_dragonOf hX ((nI k)) ((nI 0))) dL_lines_44 rfl (by decide) (by omega) rfl (fun w2 hX hT2 => ?_)
      rw [hS, lc_dr ho hk (by decide), show drV S k 0 = nI (dC S k) from rfl]
      replace hT := hT2.trans hT
      refine ev_bipush (v := nI 8) dL_lines_47 (by decide) ?_
      refine ev_iload_n dL_lines_49 rfl ?_
      refine ev_imul dL_lines_50 ?_
      refine ev_top (pk_mul _ _) ?_
      refine ev_iload_n dL_lines_51 rfl ?_
      refine ev_iadd dL_lines_52 ?_
      refine ev_top (nI_add _ _) ?_
      by_cases e : dC S k = (8 * y + x)
      · refine ev_icmp_ne_f (tgt := 60) dL_lines_53 (by decide) (by rw [e]) ?_
        refine ev_iconst dL_lines_56 ic1 ?_
        refine ev_goto (tgt := 61) dL_lines_57 (by decide) ?_
        exact ev_bu _ (by omega) (at61 _ true (by rw [dB_s, hB]; simp [e]) hX hT)
      · refine ev_icmp_ne_t (tgt := 60) dL_lines_53 (by decide) (fun q => e ((nI_eq (by omega) (by omega)).mp q)) ?_
        refine ev_iconst dL_lines_60 ic0 ?_
        exact ev_bu _ (by omega) (at61 _ false (by rw [dB_s, hB]; simp [e]) hX hT)
set_option maxRecDepth 8000 in
theorem gL_lines_x {G : GX} {A : AS} {S : ST} {bb : Nat} (hS : aS A = S) (ho : okS S) {y : Nat} (hy : y < 8) {T0 : va_W} {Z : ZT}
    (K : ∀ (w : WS) (t : Nat) (v4 v5 : Option Value), aX A w → T0.Sublist w.2 → str_ G w.2 t (rowL S y 8) → Ev G 22 bb mL_lines 134 [some (.ref 0), some (.int (nI y)), some (.ref t), some (.int (nI 8)), v4, v5] [] w Z) :
    ∀ (n x : Nat) (w : WS) (t : Nat) (v4 v5 : Option Value), x + n = 8 → aX A w → T0.Sublist w.2 → str_ G w.2 t (rowL S y x) → Ev G 22 (1300 * n + bb) mL_lines 13 [some (.ref 0), some (.int (nI y)), some (.ref t), some (.int (nI x)), v4, v5] [] w Z := by
  have hn5 := ho.2.2.1.1
  intro n
  induction n with
  | zero =>
    intro x w t v4 v5 hx hX hT hs
    obtain rfl : x = 8 := by omega
    refine ev_iload_n dL_lines_13 rfl ?_
    refine ev_bipush (v := nI 8) dL_lines_14 (by decide) ?_
    refine ev_icmp_ge_t (tgt := 134) dL_lines_16 (by decide) (Int32.le_refl _) ?_
    exact ev_bu _ (by omega) (K w t v4 v5 hX hT hs)
  | succ n ih =>
    intro x w t v4 v5 hxn hX hT hs
    have hx : x < 8 := by omega
    have hc : (8 * y + x) < 64 := by omega
    refine ev_iload_n dL_lines_13 rfl ?_
    refine ev_bipush (v := nI 8) dL_lines_14 (by decide) ?_
    refine ev_icmp_ge_f (tgt := 134) dL_lines_16 (by decide) (nI_ge hx (by decide)) ?_
    refine ev_iconst dL_lines_19 ic0 ?_
    refine ev_ist4 dL_lines_20 (by decide) rfl ?_
    refine ev_iconst dL_lines_22 ic0 ?_
    refine ev_ist5 dL_lines_23 (by decide) rfl ?_
    refine ev_bu (2 * nD S + 1 + (1300 * n + 1280 + bb)) (by omega) (gL_lines_k hS ho hy hx (T2 := w.2) (fun w1 hX hT1 => ?_) (nD S) 0 w (by omega) hX rfl)
    refine ev_aload_n dL_lines_69 rfl ?_
    refine ev_bipush (v := nI 8) dL_lines_70 (by decide) ?_
    refine ev_iload_n dL_lines_72 rfl ?_
    refine ev_imul dL_lines_73 ?_
    refine ev_top (pk_mul _ _) ?_
    refine ev_iload_n dL_lines_74 rfl ?_
    refine ev_iadd dL_lines_75 ?_
    refine ev_top (nI_add _ _) ?_
    refine ev_q kL_195 (as := [.ref 0, .int (nI (8 * y + x))]) (rest := []) (hL_realmAt hX ((nI (8 * y + x)))) dL_lines_76 rfl (by decide) (by omega) rfl (fun w2 hX hT2 => ?_)
    rw [hS, lc_at hc]
    have hT3 := hT2.trans hT1
    have hs : str_ G w2.2 t (rowL S y x) := by rw [hT3]; exact hs
    refine ev_ist5 dL_lines_79 (by decide) rfl ?_
    refine ev_newT mk_L_174 (by omega) dL_lines_81 (fun a => ?_)
    refine ev_dup dL_lines_84 rfl ?_
    refine ev_callIP iL_176 (as := []) (rest := [dy a]) (cJ4_init (x := w2.1) (T := w2.2)) dL_lines_85 rfl (by decide) (by omega) rfl (fun r0 w3 hp => ?_)
    obtain ⟨rfl, hb⟩ := hp
    refine ev_aload_n dL_lines_88 rfl ?_
    refine ev_callVP kL_177 (as := [.ref t]) (rest := []) (sb_rv hb) (cJ4_appStr hb hs (by rw [rowL_n]; simp; omega)) dL_lines_89 rfl (by decide) (by omega) rfl (fun r0 w3 hp => ?_)
    obtain ⟨rfl, hb⟩ := hp
    have at121 : ∀ (ch : Nat), ch = sgC S (8 * y + x) → Ev G 22 (1300 * n + 740 + bb) mL_lines 121 [some (.ref 0), some (.int (nI y)), some (.ref t), some (.int (nI x)), some (.int (bI (dB S (8 * y + x) (nD S)))), some (.int (sO S (8 * y + x)))] [.int (nI ch), dy a] w3 Z := by
      intro ch hch
      subst hch
      refine ev_callVP kL_182 (as := [.int (nI (sgC S (8 * y + x)))]) (rest := []) (sb_rv hb) (cJ4_appChr hb (sgC_lt ho hc) (by simp [rowL_n]; omega)) dL_lines_121 rfl (by decide) (by omega) rfl (fun r0 w3 hp => ?_)
      obtain ⟨rfl, hb⟩ := hp
      refine ev_callVP kL_185 (as := []) (rest := []) (sb_rv hb) (cJ4_toString hb) dL_lines_124 rfl (by decide) (by omega) rfl (fun r0 w3 hp => ?_)
      obtain ⟨s, rfl, hst⟩ := hp
      obtain ⟨hs1, hs2, hs3, hs4⟩ := stI_u hst
      refine ev_ast2 dL_lines_127 (by decide) rfl ?_
      refine ev_iinc3 dL_lines_128 (nI_inc _) (by decide) rfl ?_
      refine ev_goto (tgt := 13) dL_lines_131 (by decide) ?_
      exact ev_bu _ (by omega) (ih (x + 1) w3 _ _ _ (by omega) (aX_of hs1 hX) ((by rw [hT3] at hs2; exact hT.trans hs2)) (by rw [rowL_s]; simpa using hs3))
    refine ev_iload dL_lines_92 rfl ?_
    rcases ho.1 _ hc with e | ⟨c, hc4, e⟩
    · refine ev_if_ge_f (tgt := 102) dL_lines_94 (by decide) (by rw [e]; decide) ?_
      refine ev_bipush (v := nI 46) dL_lines_97 (by decide) ?_
      refine ev_goto (tgt := 121) dL_lines_99 (by decide) ?_
      exact ev_bu _ (by omega) (at121 46 (by unfold sgC; rw [if_pos e]))
    · have hn1 : ¬ sO S (8 * y + x) = -1 := by rw [e]; exact nI_m1 (by omega)
      have ho4 : oN_ (sO S (8 * y + x)) = c := by rw [e]; exact oN_nI (by omega)
      refine ev_if_ge_t (tgt := 102) dL_lines_94 (by decide) (by rw [e]; exact Int32.not_lt.mp (nI_pos (by omega))) ?_
      refine ev_iload dL_lines_102 rfl ?_
      cases hB : dB S (8 * y + x) (nD S) with
      | false =>
        rw [hB] at at121
        refine ev_if_eq_t (tgt := 113) dL_lines_104 (by decide) rfl ?_
        refine ev_ldcwS 3 rfl rfl dL_lines_113 ?_
        refine ev_iload dL_lines_116 rfl ?_
        obtain ⟨f0, hq0, hx0⟩ := id (ltx_3 (G := G) (T := w3.2))
        refine ev_top e ?_
        refine ev_callVg kL_135 (as := [.int (nI c)]) (rest := [dy a]) (sv_rv hq0) (cJ0_charAt (L := [97, 98, 99, 100]) ⟨f0, hq0, hx0⟩ hc4 (by decide)) dL_lines_118 rfl (by decide) (by omega) rfl ?_
        refine ev_top (chr_l hc4) ?_
        exact ev_bu _ (by omega) (at121 (97 + c) (by unfold sgC; rw [if_neg hn1, ho4, ← dB_on, hB]; rfl))
      | true =>
        rw [hB] at at121
        refine ev_if_eq_f (tgt := 113) dL_lines_104 (by decide) (by decide) ?_
        refine ev_ldcwS 2 rfl rfl dL_lines_107 ?_
        refine ev_goto (tgt := 116) dL_lines_110 (by decide) ?_
        refine ev_iload dL_lines_116 rfl ?_
        obtain ⟨f0, hq0, hx0⟩ := id (ltx_2 (G := G) (T := w3.2))
        refine ev_top e ?_
        refine ev_callVg kL_135 (as := [.int (nI c)]) (rest := [dy a]) (sv_rv hq0) (cJ0_charAt (L := [65, 66, 67, 68]) ⟨f0, hq0, hx0⟩ hc4 (by decide)) dL_lines_118 rfl (by decide) (by omega) rfl ?_
        refine ev_top (chr_u hc4) ?_
        exact ev_bu _ (by omega) (at121 (65 + c) (by unfold sgC; rw [if_neg hn1, ho4, ← dB_on, hB]; rfl))
set_option maxRecDepth 8000 in
theorem gL_lines_y {G : GX} {A : AS} {S : ST} {bb : Nat} (hS : aS A = S) (ho : okS S) {T0 : va_W} {Z : ZT}
    (K : ∀ (w : WS) (Lq : List Nat) (v2 v3 v4 v5 : Option Value), aX (setL A Lq) w → T0.Sublist w.2 → Ev G 22 bb mL_lines 155 [some (.ref 0), some (.int (nI 8)), v2, v3, v4, v5] [] w Z) :
    ∀ (n y : Nat) (w : WS) (Lq : List Nat) (v2 v3 v4 v5 : Option Value), y + n = 8 → aX (setL A Lq) w → T0.Sublist w.2 → Ev G 22 (10500 * n + bb) mL_lines 2 [some (.ref 0), some (.int (nI y)), v2, v3, v4, v5] [] w Z := by
  intro n
  induction n with
  | zero =>
    intro y w Lq v2 v3 v4 v5 hy hX hT
    obtain rfl : y = 8 := by omega
    refine ev_iload_n dL_lines_2 rfl ?_
    refine ev_bipush (v := nI 8) dL_lines_3 (by decide) ?_
    refine ev_icmp_ge_t (tgt := 155) dL_lines_5 (by decide) (Int32.le_refl _) ?_
    exact ev_bu _ (by omega) (K w Lq v2 v3 v4 v5 hX hT)
  | succ n ih =>
    intro y w Lq v2 v3 v4 v5 hyn hX hT
    have hy : y < 8 := by omega
    refine ev_iload_n dL_lines_2 rfl ?_
    refine ev_bipush (v := nI 8) dL_lines_3 (by decide) ?_
    refine ev_icmp_ge_f (tgt := 155) dL_lines_5 (by decide) (nI_ge hy (by decide)) ?_
    refine ev_ldcS 0 rfl rfl dL_lines_8 ?_
    refine ev_ast2 dL_lines_10 (by decide) rfl ?_
    refine ev_iconst dL_lines_11 ic0 ?_
    refine ev_ist3 dL_lines_12 (by decide) rfl ?_
    refine ev_bu (1300 * 8 + (10500 * n + 70 + bb)) (by omega) (gL_lines_x (A := (setL A Lq)) (T0 := T0) hS ho hy (fun w1 t v4 v5 hX hT hs => ?_) 8 0 w _ v4 v5 rfl hX hT ltx_0)
    rw [← hS] at hs
    refine ev_aload_n dL_lines_134 rfl ?_
    refine ev_aload_n dL_lines_135 rfl ?_
    refine ev_iload_n dL_lines_136 rfl ?_
    refine ev_q kL_306 (as := [.ref 0, .int (nI y)]) (rest := [.ref 0]) (hL_row hX (nI y)) dL_lines_137 rfl (by decide) (by omega) rfl (fun w2 hX hT2 => ?_)
    rw [sp_row hy] at hX ⊢
    refine ev_top (y := nI (rowL (aS A) y 8).length) rfl ?_
    replace hX : aX (setL A (rowL (aS A) y 8)) w2 := hX
    have hs : str_ G w2.2 t (rowL (aS A) y 8) := by rw [hT2]; exact hs
    refine ev_aload_n dL_lines_140 rfl ?_
    refine ev_callSP kL_308 (as := [.ref 0, .int (nI (rowL (aS A) y 8).length), .ref t]) (rest := []) (gL_spells hX hs) dL_lines_141 rfl (by decide) (by omega) rfl (fun r0 w4 hp => ?_)
    obtain ⟨rfl, hX, hT4⟩ := hp
    refine ev_if_ne_t (tgt := 149) dL_lines_144 (by decide) (by decide) ?_
    refine ev_iinc1 dL_lines_149 (nI_inc _) (by decide) rfl ?_
    refine ev_goto (tgt := 2) dL_lines_152 (by decide) ?_
    exact ev_bu _ (by omega) (ih (y + 1) w4 _ _ _ _ _ (by omega) hX (by rw [hT4, hT2]; exact hT))
set_option maxRecDepth 8000 in
theorem gL_lines_p {G : GX} {A : AS} {S : ST} {bb : Nat} (hS : aS A = S) (ho : okS S) {i : Nat} (hi : i < nR S) {T0 : va_W} {v5 : Option Value} {Z : ZT}
    (K : ∀ (w : WS) (t : Nat) (v4 : Option Value), aX A w → T0.Sublist w.2 → str_ G w.2 t (telP S i (rN S i)) → Ev G 22 bb mL_lines 286 [some (.ref 0), some (.int (nI i)), some (.ref t), some (.int (nI (rN S i + 1))), v4, v5] [] w Z) :
    ∀ (n k : Nat) (w : WS) (t : Nat) (v4 : Option Value), k + n = rN S i → aX A w → T0.Sublist w.2 → str_ G w.2 t (telP S i k) → Ev G 22 (1300 * n + 1 + bb) mL_lines 194 [some (.ref 0), some (.int (nI i)), some (.ref t), some (.int (nI (k + 1))), v4, v5] [] w Z := by
  obtain ⟨hv1, hv2, hv3, hv4, hv5⟩ := ho.2.1.2 i hi
  intro n
  induction n with
  | zero =>
    intro k w t v4 hk hX hT hs
    obtain rfl : k = rN S i := by omega
    refine ev_iload_n dL_lines_194 rfl ?_
    refine ev_aload_n dL_lines_195 rfl ?_
    refine ev_iload_n dL_lines_196 rfl ?_
    refine ev_iconst dL_lines_197 ic1 ?_
    refine ev_q kL_276 (as := [.ref 0, .int (nI i), .int (nI 1)]) (rest := [.int (nI (rN S i + 1))]) (hL_riverOf hX ((nI i)) ((nI 1))) dL_lines_198 rfl (by decide) (by omega) rfl (fun w2 hX hT2 => ?_)
    rw [hS, lc_rv ho hi (by decide), show rvV S i 1 = nI (rN S i) from rfl]
    have hs : str_ G w2.2 t (telP S i (rN S i)) := by rw [hT2]; exact hs
    have hT : T0.Sublist w2.2 := by rw [hT2]; exact hT
    refine ev_icmp_gt_t (tgt := 286) dL_lines_201 (by decide) (by show nI (rN S i) < nI (rN S i + 1); exact nI_lt (by omega) (by omega)) ?_
    exact ev_bu _ (by omega) (K w2 t v4 hX hT hs)
  | succ n ih =>
    intro k w t v4 hkn hX hT hs
    have hk : k < rN S i := by omega
    obtain ⟨hd4, hnb⟩ := stF_ok ho hi hk
    have hp0 : rP S i k < 64 := hv4 k (by omega)
    have hv := stp_v hp0 hd4 hnb
    have hle := telP_le S i k
    refine ev_iload_n dL_lines_194 rfl ?_
    refine ev_aload_n dL_lines_195 rfl ?_
    refine ev_iload_n dL_lines_196 rfl ?_
    refine ev_iconst dL_lines_197 ic1 ?_
    refine ev_q kL_276 (as := [.ref 0, .int (nI i), .int (nI 1)]) (rest := [.int (nI (k + 1))]) (hL_riverOf hX ((nI i)) ((nI 1))) dL_lines_198 rfl (by decide) (by omega) rfl (fun w2 hX hT2 => ?_)
    rw [hS, lc_rv ho hi (by decide), show rvV S i 1 = nI (rN S i) from rfl]
    have hs : str_ G w2.2 t (telP S i k) := by rw [hT2]; exact hs
    have hT : T0.Sublist w2.2 := by rw [hT2]; exact hT
    refine ev_icmp_gt_f (tgt := 286) dL_lines_201 (by decide) (by show ¬ nI (rN S i) < nI (k + 1); exact nI_nlt (by omega) (by omega)) ?_
    refine ev_aload_n dL_lines_204 rfl ?_
    refine ev_iload_n dL_lines_205 rfl ?_
    refine ev_iload_n dL_lines_206 rfl ?_
    refine ev_q kL_278 (as := [.ref 0, .int (nI i), .int (nI (k + 1))]) (rest := []) (hL_riverAt hX ((nI i)) ((nI (k + 1)))) dL_lines_207 rfl (by decide) (by omega) rfl (fun w2 hX hT2 => ?_)
    rw [hS, lc_ra ho hi (by omega)]
    have hs : str_ G w2.2 t (telP S i k) := by rw [hT2]; exact hs
    have hT : T0.Sublist w2.2 := by rw [hT2]; exact hT
    refine ev_aload_n dL_lines_210 rfl ?_
    refine ev_iload_n dL_lines_211 rfl ?_
    refine ev_iload_n dL_lines_212 rfl ?_
    refine ev_iconst dL_lines_213 ic1 ?_
    refine ev_isub dL_lines_214 ?_
    refine ev_top (y := nI k) ((pk_sub (by omega)).trans rfl) ?_
    refine ev_q kL_278 (as := [.ref 0, .int (nI i), .int (nI k)]) (rest := [.int (nI (rP S i (k + 1)))]) (hL_riverAt hX ((nI i)) ((nI k))) dL_lines_215 rfl (by decide) (by omega) rfl (fun w2 hX hT2 => ?_)
    rw [hS, lc_ra ho hi (by omega)]
    have hs : str_ G w2.2 t (telP S i k) := by rw [hT2]; exact hs
    have hT : T0.Sublist w2.2 := by rw [hT2]; exact hT
    refine ev_isub dL_lines_218 ?_
    refine ev_top hv ?_
    refine ev_ist4 dL_lines_219 (by decide) rfl ?_
    refine ev_newT mk_L_174 (by omega) dL_lines_221 (fun a => ?_)
    refine ev_dup dL_lines_224 rfl ?_
    refine ev_callIP iL_176 (as := []) (rest := [dy a]) (cJ4_init (x := w2.1) (T := w2.2)) dL_lines_225 rfl (by decide) (by omega) rfl (fun r0 w3 hp => ?_)
    obtain ⟨rfl, hb⟩ := hp
    refine ev_aload_n dL_lines_228 rfl ?_
    refine ev_callVP kL_177 (as := [.ref t]) (rest := []) (sb_rv hb) (cJ4_appStr hb hs (by simp; omega)) dL_lines_229 rfl (by decide) (by omega) rfl (fun r0 w3 hp => ?_)
    obtain ⟨rfl, hb⟩ := hp
    have at273 : ∀ (s ch : Nat) (v4 : Option Value), str_ G w2.2 s [ch] → ch = sgS (stF S i k) → Ev G 22 (1300 * n + 740 + bb) mL_lines 273 [some (.ref 0), some (.int (nI i)), some (.ref t), some (.int (nI (k + 1))), v4, v5] [.ref s, dy a] w3 Z := by
      intro s ch v4 hs5 hch
      subst hch
      refine ev_callVP kL_177 (as := [.ref s]) (rest := []) (sb_rv hb) (cJ4_appStr hb hs5 (by simp; omega)) dL_lines_273 rfl (by decide) (by omega) rfl (fun r0 w3 hp => ?_)
      obtain ⟨rfl, hb⟩ := hp
      refine ev_callVP kL_185 (as := []) (rest := []) (sb_rv hb) (cJ4_toString hb) dL_lines_276 rfl (by decide) (by omega) rfl (fun r0 w3 hp => ?_)
      obtain ⟨s, rfl, hst⟩ := hp
      obtain ⟨hs1, hs2, hs3, hs4⟩ := stI_u hst
      refine ev_ast2 dL_lines_279 (by decide) rfl ?_
      refine ev_iinc3 dL_lines_280 (nI_inc _) (by decide) rfl ?_
      refine ev_goto (tgt := 194) dL_lines_283 (by decide) ?_
      exact ev_bu _ (by omega) (ih (k + 1) w3 _ _ (by omega) (aX_of hs1 hX) (hT.trans hs2) (by rw [telP_s]; simpa using hs3))
    generalize hD : stF S i k = D at hd4 hv at273
    obtain rfl | rfl | rfl | rfl : D = 0 ∨ D = 1 ∨ D = 2 ∨ D = 3 := by omega
    · 
      refine ev_iload dL_lines_232 rfl ?_
      refine ev_bipush (v := (-8)) dL_lines_234 (by decide) ?_
      refine ev_icmp_ne_f (tgt := 245) dL_lines_236 (by decide) rfl ?_
      refine ev_ldcwS 5 rfl rfl dL_lines_239 ?_
      refine ev_goto (tgt := 273) dL_lines_242 (by decide) ?_
      exact ev_bu _ (by omega) (at273 2005 110 _ ltx_5 rfl)
    · 
      refine ev_iload dL_lines_232 rfl ?_
      refine ev_bipush (v := (-8)) dL_lines_234 (by decide) ?_
      refine ev_icmp_ne_t (tgt := 245) dL_lines_236 (by decide) (by decide) ?_
      refine ev_iload dL_lines_245 rfl ?_
      refine ev_iconst dL_lines_247 ic1 ?_
      refine ev_icmp_ne_f (tgt := 257) dL_lines_248 (by decide) rfl ?_
      refine ev_ldcwS 6 rfl rfl dL_lines_251 ?_
      refine ev_goto (tgt := 273) dL_lines_254 (by decide) ?_
      exact ev_bu _ (by omega) (at273 2006 101 _ ltx_6 rfl)
    · 
      refine ev_iload dL_lines_232 rfl ?_
      refine ev_bipush (v := (-8)) dL_lines_234 (by decide) ?_
      refine ev_icmp_ne_t (tgt := 245) dL_lines_236 (by decide) (by decide) ?_
      refine ev_iload dL_lines_245 rfl ?_
      refine ev_iconst dL_lines_247 ic1 ?_
      refine ev_icmp_ne_t (tgt := 257) dL_lines_248 (by decide) (by decide) ?_
      refine ev_iload dL_lines_257 rfl ?_
      refine ev_bipush (v := nI 8) dL_lines_259 (by decide) ?_
      refine ev_icmp_ne_f (tgt := 270) dL_lines_261 (by decide) rfl ?_
      refine ev_ldcwS 7 rfl rfl dL_lines_264 ?_
      refine ev_goto (tgt := 273) dL_lines_267 (by decide) ?_
      exact ev_bu _ (by omega) (at273 2007 115 _ ltx_7 rfl)
    · 
      refine ev_iload dL_lines_232 rfl ?_
      refine ev_bipush (v := (-8)) dL_lines_234 (by decide) ?_
      refine ev_icmp_ne_t (tgt := 245) dL_lines_236 (by decide) (by decide) ?_
      refine ev_iload dL_lines_245 rfl ?_
      refine ev_iconst dL_lines_247 ic1 ?_
      refine ev_icmp_ne_t (tgt := 257) dL_lines_248 (by decide) (by decide) ?_
      refine ev_iload dL_lines_257 rfl ?_
      refine ev_bipush (v := nI 8) dL_lines_259 (by decide) ?_
      refine ev_icmp_ne_t (tgt := 270) dL_lines_261 (by decide) (by decide) ?_
      refine ev_ldcwS 8 rfl rfl dL_lines_270 ?_
      exact ev_bu _ (by omega) (at273 2008 119 _ ltx_8 rfl)
theorem wr_0 {S : ST} (ho : okS S) {i : Nat} (hi : i < nR S) : (nI (rT S i) = nI (rN S i) * sM S 0) ↔ wr S (oN_ (sM S 0)) i = 0 := by
  obtain ⟨mm, h1, h9, h0⟩ := ho.2.2.2
  obtain ⟨hv1, hv2, hv3, -⟩ := ho.2.1.2 i hi
  have hle : rN S i * mm ≤ 12 * 9 := Nat.mul_le_mul hv3 h9
  rw [h0, oN_nI (by omega), pk_mul, nI_eq (by omega) (by omega)]
  unfold wr
  omega
set_option maxRecDepth 8000 in
theorem gL_lines_i {G : GX} {A : AS} {S : ST} {bb : Nat} (hS : aS A = S) (ho : okS S) {T0 : va_W} {v5 : Option Value} {Z : ZT}
    (K : ∀ (w : WS) (Lq : List Nat) (v2 v3 v4 : Option Value), aX (setL A Lq) w → T0.Sublist w.2 → Ev G 22 bb mL_lines 363 [some (.ref 0), some (.int (nI (nR S))), v2, v3, v4, v5] [] w Z) :
    ∀ (n i : Nat) (w : WS) (Lq : List Nat) (v2 v3 v4 : Option Value), i + n = nR S → aX (setL A Lq) w → T0.Sublist w.2 → Ev G 22 (21000 * n + 1 + bb) mL_lines 157 [some (.ref 0), some (.int (nI i)), v2, v3, v4, v5] [] w Z := by
  have hn4 := ho.2.1.1
  intro n
  induction n with
  | zero =>
    intro i w Lq v2 v3 v4 hi hX hT
    obtain rfl : i = nR S := by omega
    refine ev_iload_n dL_lines_157 rfl ?_
    refine ev_aload_n dL_lines_158 rfl ?_
    refine ev_iconst dL_lines_159 ic1 ?_
    refine ev_qc kL_255 co0 (as := [.int (nI 1)]) (rest := [.int (nI (nR S))]) (fX11_account_y (G := G) hX (i := 1) (by omega)) dL_lines_160 rfl (by decide) (by omega) rfl (fun w2 hX hT2 => ?_)
    rw [show acV (setL A Lq) 1 = nI (nR (aS A)) from rfl, hS]
    have hT : T0.Sublist w2.2 := by rw [hT2]; exact hT
    refine ev_icmp_ge_t (tgt := 363) dL_lines_163 (by decide) (Int32.le_refl _) ?_
    exact ev_bu _ (by omega) (K w2 Lq v2 v3 v4 hX hT)
  | succ n ih =>
    intro i w Lq v2 v3 v4 hin hX hT
    have hi : i < nR S := by omega
    obtain ⟨hv1, hv2, hv3, hv4, hv5⟩ := ho.2.1.2 i hi
    have hp0 : rP S i 0 < 64 := hv4 0 (Nat.zero_le _)
    have hnu := (nuL_le (rP S i 0)).1
    refine ev_iload_n dL_lines_157 rfl ?_
    refine ev_aload_n dL_lines_158 rfl ?_
    refine ev_iconst dL_lines_159 ic1 ?_
    refine ev_qc kL_255 co0 (as := [.int (nI 1)]) (rest := [.int (nI i)]) (fX11_account_y (G := G) hX (i := 1) (by omega)) dL_lines_160 rfl (by decide) (by omega) rfl (fun w2 hX hT2 => ?_)
    rw [show acV (setL A Lq) 1 = nI (nR (aS A)) from rfl, hS]
    have hT : T0.Sublist w2.2 := by rw [hT2]; exact hT
    refine ev_icmp_ge_f (tgt := 363) dL_lines_163 (by decide) (nI_ge hi (by omega)) ?_
    refine ev_newT mk_L_174 (by omega) dL_lines_166 (fun a => ?_)
    refine ev_dup dL_lines_169 rfl ?_
    refine ev_callIP iL_176 (as := []) (rest := [dy a]) (cJ4_init (x := w2.1) (T := w2.2)) dL_lines_170 rfl (by decide) (by omega) rfl (fun r0 w3 hp => ?_)
    obtain ⟨rfl, hb⟩ := hp
    replace hX := aX_of (sbI_1 hb) hX
    clear hT2
    refine ev_aload_n dL_lines_173 rfl ?_
    refine ev_iload_n dL_lines_174 rfl ?_
    refine ev_iconst dL_lines_175 ic0 ?_
    refine ev_q kL_276 (as := [.ref 0, .int (nI i), .int (nI 0)]) (rest := [dy a]) (hL_riverOf hX ((nI i)) ((nI 0))) dL_lines_176 rfl (by decide) (by omega) rfl (fun w2 hX hT2 => ?_)
    rw [show aS (setL A Lq) = S from hS, lc_rv ho hi (by decide), show rvV S i 0 = nI (rP S i 0) from rfl]
    have hb := sbI_mv hb hT2
    refine ev_callVP kL_312 (as := [.int (nI (rP S i 0))]) (rest := []) (sb_rv hb) (cJ4_appInt hb (u := rP S i 0) (by omega) (by simp)) dL_lines_179 rfl (by decide) (by omega) rfl (fun r0 w3 hp => ?_)
    obtain ⟨rfl, hb⟩ := hp
    refine ev_ldcwS 4 rfl rfl dL_lines_182 ?_
    refine ev_callVP kL_177 (as := [.ref 2004]) (rest := []) (sb_rv hb) (cJ4_appStr hb ltx_4 (by simp; omega)) dL_lines_185 rfl (by decide) (by omega) rfl (fun r0 w3 hp => ?_)
    obtain ⟨rfl, hb⟩ := hp
    refine ev_callVP kL_185 (as := []) (rest := []) (sb_rv hb) (cJ4_toString hb) dL_lines_188 rfl (by decide) (by omega) rfl (fun r0 w3 hp => ?_)
    obtain ⟨s, rfl, hst⟩ := hp
    obtain ⟨hs1, hs2, hs3, hs4⟩ := stI_u hst
    have hX : aX (setL A Lq) w3 := aX_of hs1 hX
    have hT : T0.Sublist w3.2 := hT.trans hs2
    refine ev_ast2 dL_lines_191 (by decide) rfl ?_
    refine ev_iconst dL_lines_192 ic1 ?_
    refine ev_ist3 dL_lines_193 (by decide) rfl ?_
    refine ev_bu (1300 * rN S i + 1 + (21000 * n + 2500 + bb)) (by omega) (gL_lines_p (A := setL A Lq) (T0 := T0) (v5 := v5) hS ho hi (fun w1 t v4 hX hT hs => ?_) (rN S i) 0 w3 _ v4 (by omega) hX hT (by simpa [telP] using hs3))
    have hle := telP_le S i (rN S i)
    have hnt := (nuL_le (rT S i)).1
    refine ev_newT mk_L_174 (by omega) dL_lines_286 (fun a => ?_)
    refine ev_dup dL_lines_289 rfl ?_
    refine ev_callIP iL_176 (as := []) (rest := [dy a]) (cJ4_init (x := w1.1) (T := w1.2)) dL_lines_290 rfl (by decide) (by omega) rfl (fun r0 w3 hp => ?_)
    obtain ⟨rfl, hb⟩ := hp
    have hX0 : aX (setL A Lq) w1 := hX
    refine ev_aload_n dL_lines_293 rfl ?_
    refine ev_callVP kL_177 (as := [.ref t]) (rest := []) (sb_rv hb) (cJ4_appStr hb hs (by simp; omega)) dL_lines_294 rfl (by decide) (by omega) rfl (fun r0 w3 hp => ?_)
    obtain ⟨rfl, hb⟩ := hp
    refine ev_ldcwS 9 rfl rfl dL_lines_297 ?_
    refine ev_callVP kL_177 (as := [.ref 2009]) (rest := []) (sb_rv hb) (cJ4_appStr hb ltx_9 (by simp; omega)) dL_lines_300 rfl (by decide) (by omega) rfl (fun r0 w3 hp => ?_)
    obtain ⟨rfl, hb⟩ := hp
    replace hX : aX (setL A Lq) w3 := aX_of (sbI_1 hb) hX0
    refine ev_aload_n dL_lines_303 rfl ?_
    refine ev_iload_n dL_lines_304 rfl ?_
    refine ev_iconst dL_lines_305 ic3 ?_
    refine ev_q kL_276 (as := [.ref 0, .int (nI i), .int (nI 3)]) (rest := [dy a]) (hL_riverOf hX ((nI i)) ((nI 3))) dL_lines_306 rfl (by decide) (by omega) rfl (fun w2 hX hT2 => ?_)
    rw [show aS (setL A Lq) = S from hS, lc_rv ho hi (by decide), show rvV S i 3 = nI (rT S i) from rfl]
    have hb := sbI_mv hb hT2
    refine ev_callVP kL_312 (as := [.int (nI (rT S i))]) (rest := []) (sb_rv hb) (cJ4_appInt hb (u := rT S i) (by omega) (by simp; omega)) dL_lines_309 rfl (by decide) (by omega) rfl (fun r0 w3 hp => ?_)
    obtain ⟨rfl, hb⟩ := hp
    replace hX : aX (setL A Lq) w3 := aX_of (sbI_1 hb) hX
    refine ev_aload_n dL_lines_312 rfl ?_
    refine ev_iload_n dL_lines_313 rfl ?_
    refine ev_iconst dL_lines_314 ic3 ?_
    refine ev_q kL_276 (as := [.ref 0, .int (nI i), .int (nI 3)]) (rest := [dy a]) (hL_riverOf hX ((nI i)) ((nI 3))) dL_lines_315 rfl (by decide) (by omega) rfl (fun w2 hX hT2 => ?_)
    rw [show aS (setL A Lq) = S from hS, lc_rv ho hi (by decide), show rvV S i 3 = nI (rT S i) from rfl]
    have hb := sbI_mv hb hT2
    refine ev_aload_n dL_lines_318 rfl ?_
    refine ev_iload_n dL_lines_319 rfl ?_
    refine ev_iconst dL_lines_320 ic4 ?_
    refine ev_q kL_276 (as := [.ref 0, .int (nI i), .int (nI 4)]) (rest := [.int (nI (rT S i)), dy a]) (hL_riverOf hX ((nI i)) ((nI 4))) dL_lines_321 rfl (by decide) (by omega) rfl (fun w2 hX hT2 => ?_)
    rw [show aS (setL A Lq) = S from hS, lc_rv ho hi (by decide), show rvV S i 4 = nI (rN S i) * sM S 0 from rfl]
    have hb := sbI_mv hb hT2
    have fin : ∀ (s : Nat) (Lz : List Nat), str_ G w1.2 s Lz → Lz = (if wr S (oN_ (sM S 0)) i = 0 then [] else [63]) → Ev G 22 (21000 * n + 900 + bb) mL_lines 335 [some (.ref 0), some (.int (nI i)), some (.ref t), some (.int (nI (rN S i + 1))), v4, v5] [.ref s, dy a] w2 Z := by
      intro s Lz hz hLz
      have hzl : Lz.length ≤ 1 := by rw [hLz]; split <;> simp
      refine ev_callVP kL_177 (as := [.ref s]) (rest := []) (sb_rv hb) (cJ4_appStr hb hz (by simp; omega)) dL_lines_335 rfl (by decide) (by omega) rfl (fun r0 w3 hp => ?_)
      obtain ⟨rfl, hb⟩ := hp
      refine ev_callVP kL_185 (as := []) (rest := []) (sb_rv hb) (cJ4_toString hb) dL_lines_338 rfl (by decide) (by omega) rfl (fun r0 w3 hp => ?_)
      obtain ⟨s, rfl, hst⟩ := hp
      obtain ⟨hs1, hs2, hs3, hs4⟩ := stI_u hst
      have hX : aX (setL A Lq) w3 := aX_of hs1 hX
      have hT : T0.Sublist w3.2 := hT.trans hs2
      have hs : str_ G w3.2 (10000 + s) (telL (aS A) i) := by rw [hS]; unfold telL; rw [← hLz]; simpa using hs3
      refine ev_ast2 dL_lines_341 (by decide) rfl ?_
      refine ev_aload_n dL_lines_342 rfl ?_
      refine ev_aload_n dL_lines_343 rfl ?_
      refine ev_iload_n dL_lines_344 rfl ?_
      refine ev_q kL_329 (as := [.ref 0, .int (nI i)]) (rest := [.ref 0]) (hL_tell hX (nI i)) dL_lines_345 rfl (by decide) (by omega) rfl (fun w2 hX hT2 => ?_)
      rw [sp_tell (A := setL A Lq) (by rw [show aS (setL A Lq) = S from hS]; exact ho) (by rw [show aS (setL A Lq) = S from hS]; exact hi)] at hX ⊢
      refine ev_top (y := nI (telL (aS A) i).length) rfl ?_
      replace hX : aX (setL A (telL (aS A) i)) w2 := hX
      have hs : str_ G w2.2 (10000 + s) (telL (aS A) i) := by rw [hT2]; exact hs
      refine ev_aload_n dL_lines_348 rfl ?_
      refine ev_callSP kL_308 (as := [.ref 0, .int (nI (telL (aS A) i).length), .ref (10000 + s)]) (rest := []) (gL_spells hX hs) dL_lines_349 rfl (by decide) (by omega) rfl (fun r0 w4 hp => ?_)
      obtain ⟨rfl, hX, hT4⟩ := hp
      refine ev_if_ne_t (tgt := 357) dL_lines_352 (by decide) (by decide) ?_
      refine ev_iinc1 dL_lines_357 (nI_inc _) (by decide) rfl ?_
      refine ev_goto (tgt := 157) dL_lines_360 (by decide) ?_
      exact ev_bu _ (by omega) (ih (i + 1) w4 _ _ _ _ (by omega) hX (by rw [hT4, hT2]; exact hT))
    by_cases e : wr S (oN_ (sM S 0)) i = 0
    · refine ev_icmp_ne_f (tgt := 332) dL_lines_324 (by decide) ((wr_0 ho hi).mpr e) ?_
      refine ev_ldcS 0 rfl rfl dL_lines_327 ?_
      refine ev_goto (tgt := 335) dL_lines_329 (by decide) ?_
      exact ev_bu _ (by omega) (fin 2000 [] ltx_0 (by rw [if_pos e]))
    · refine ev_icmp_ne_t (tgt := 332) dL_lines_324 (by decide) (fun q => e ((wr_0 ho hi).mp q)) ?_
      refine ev_ldcwS 10 rfl rfl dL_lines_332 ?_
      exact ev_bu _ (by omega) (fin 2010 [63] ltx_10 (by rw [if_neg e]))
set_option maxRecDepth 8000 in
theorem gL_lines {G : GX} {w : WS} {A : AS} (hX : aX A w) : BigP G 22 170000 mL_lines [.ref 0] w (fun r w2 => r = some (.int (nI 1)) ∧ w2.2 = w.2 ∧ ∃ Lq, aX (setL A Lq) w2) := by
  refine bp_of (by decide +kernel) rfl (Nat.le_of_ble_eq_true rfl) ?_
  show Ev G 22 170000 mL_lines 0 [some (.ref 0), none, none, none, none, none] [] w _
  have ho := hX.1.2
  have hn4 := ho.2.1.1
  refine ev_iconst dL_lines_0 ic0 ?_
  refine ev_ist1 dL_lines_1 (by decide) rfl ?_
  refine ev_bu (10500 * 8 + 85000) (by omega) (gL_lines_y (A := A) (S := aS A) (T0 := w.2) rfl ho (fun w1 Lq v2 v3 v4 v5 hX hT => ?_) 8 0 w (aL A) _ _ _ _ rfl hX (List.Sublist.refl _))
  refine ev_iconst dL_lines_155 ic0 ?_
  refine ev_ist1 dL_lines_156 (by decide) rfl ?_
  refine ev_bu (21000 * nR (aS A) + 1 + 100) (by omega) (gL_lines_i (A := A) (S := aS A) (T0 := w.2) (v5 := v5) rfl ho (fun w1 Lq v2 v3 v4 hX hT => ?_) (nR (aS A)) 0 w1 Lq _ _ _ (by omega) hX hT)
  refine ev_aload_n dL_lines_363 rfl ?_
  refine ev_bipush (v := nI 8) dL_lines_364 (by decide) ?_
  refine ev_q kL_306 (as := [.ref 0, .int (nI 8)]) (rest := []) (hL_row hX (nI 8)) dL_lines_366 rfl (by decide) (by omega) rfl (fun w2 hX hT2 => ?_)
  rw [sp_row8] at hX ⊢
  refine ev_top (y := -11) rfl ?_
  replace hX : aX (setL A Lq) w2 := hX
  have hT : w.2.Sublist w2.2 := by rw [hT2]; exact hT
  refine ev_bipush (v := (-11)) dL_lines_369 (by decide) ?_
  refine ev_icmp_ne_f (tgt := 392) dL_lines_371 (by decide) rfl ?_
  refine ev_aload_n dL_lines_374 rfl ?_
  refine ev_aload_n dL_lines_375 rfl ?_
  refine ev_iconst dL_lines_376 ic1 ?_
  refine ev_qc kL_255 co0 (as := [.int (nI 1)]) (rest := [.ref 0]) (fX11_account_y (G := G) hX (i := 1) (by omega)) dL_lines_377 rfl (by decide) (by omega) rfl (fun w2 hX hT2 => ?_)
  rw [show acV (setL A Lq) 1 = nI (nR (aS A)) from rfl]
  have hT : w.2.Sublist w2.2 := by rw [hT2]; exact hT
  refine ev_q kL_329 (as := [.ref 0, .int (nI (nR (aS A)))]) (rest := []) (hL_tell hX (nI (nR (aS A)))) dL_lines_380 rfl (by decide) (by omega) rfl (fun w2 hX hT2 => ?_)
  rw [show spTell (setL A Lq) (nI (nR (aS A))) = ((1, 0), setL A Lq) from sp_telln (A := setL A Lq) ho] at hX ⊢
  refine ev_top (y := -11) rfl ?_
  replace hX : aX (setL A Lq) w2 := hX
  have hT : w.2.Sublist w2.2 := by rw [hT2]; exact hT
  refine ev_bipush (v := (-11)) dL_lines_383 (by decide) ?_
  refine ev_icmp_ne_f (tgt := 392) dL_lines_385 (by decide) rfl ?_
  refine ev_iconst dL_lines_388 ic1 ?_
  refine ev_goto (tgt := 393) dL_lines_389 (by decide) ?_
  refine ev_tl (T' := w.2) hT ?_
  exact ev_iretP dL_lines_393 rfl (by decide) ⟨rfl, rfl, Lq, aX_of rfl hX⟩
