/-! the law's map: it is drawn -/
theorem stN_all {n : Nat} {t : Nat → Nat} (hs : ∀ i, i < n → (stp n t i).isSome = true) : ∀ {f p : Nat}, p ≤ n → n - p ≤ f → stN n t f p = n - p := by
  intro f
  induction f with
  | zero =>
    intro p h1 h2
    show 0 = n - p
    omega
  | succ f ih =>
    intro p h1 h2
    by_cases e : p < n
    · show (if (stp n t p).isSome then stN n t f (p + 1) + 1 else 0) = n - p
      rw [if_pos (hs p e), ih (by omega) (by omega)]
      omega
    · have : p = n := by omega
      subst this
      show (if (stp p t p).isSome then stN p t f (p + 1) + 1 else 0) = p - p
      have e2 : stp p t p = none := by
        unfold stp
        rw [if_neg (Nat.lt_irrefl p)]
      rw [e2]
      show 0 = p - p
      omega
/-- the letter of a step -/
def nsw (j : Nat) : Nat := [110, 101, 115, 119].getD j 0
theorem nsw_ok : ∀ j : Fin 4, 32 ≤ nsw j.val ∧ nsw j.val ≤ 126 ∧ nsw j.val < 128 ∧ (dO_ (nsw j.val)).isSome = true := by decide +kernel
def stL (D n : Nat) : List Nat := (List.range n).map (fun i => nsw (D / 2 ^ (4 + i) % 4))
theorem stL_s (D n : Nat) : stL D (n + 1) = stL D n ++ [nsw (D / 2 ^ (4 + n) % 4)] := by
  unfold stL
  rw [List.range_succ, List.map_append]
  rfl
theorem stL_n (D n : Nat) : (stL D n).length = n := by unfold stL; simp
theorem stL_m {D n c : Nat} (h : c ∈ stL D n) : ∃ j, j < 4 ∧ c = nsw j := by
  obtain ⟨i, -, rfl⟩ := List.mem_map.mp h
  exact ⟨_, Nat.mod_lt _ (by decide), rfl⟩
theorem stL_ty (D n : Nat) : tyL (stL D n) := fun c h => by
  obtain ⟨j, hj, rfl⟩ := stL_m h
  exact ⟨(nsw_ok ⟨j, hj⟩).1, (nsw_ok ⟨j, hj⟩).2.1⟩
theorem pv_ {q : Nat} (h : q < 5) : r5 (nI q - nI 1) := by
  rcases Nat.eq_zero_or_pos q with rfl | h1
  · exact Or.inl (by decide)
  · exact Or.inr ⟨q - 1, by omega, pk_sub h1⟩
theorem sp_paint {A : AS} {c : Nat} (hc : c < 64) {v : Int32} (hv : r5 v) : spPaint A (nI c) v = spCh A 3 (.inl (c, v)) := by
  unfold spPaint
  rw [ixN_y hc (by decide)]
  dsimp only
  rw [if_pos]
  rcases hv with e | ⟨k, hk, e⟩
  · exact Or.inl e
  · refine Or.inr ?_
    rw [e, ixN_y hk (by decide)]
    rfl
theorem sp_scale {A : AS} {mm : Nat} (h : mm < 10) (h0 : mm ≠ 0) : spScale A (nI mm) = spCh A 2 (.inr (.inr (.inl mm))) := by
  unfold spScale
  rw [ixN_y h (by decide)]
  dsimp only
  rw [if_neg h0]
theorem sp_dragon {A : AS} {c p : Nat} (hc : c < 64) (hp : p < 51) (h0 : p ≠ 0) : spDragon A (nI c) (nI p) = spCh A 3 (.inr (.inr (.inr (.inr (.inr (.inl (c, p))))))) := by
  unfold spDragon
  rw [ixN_y hc (by decide)]
  dsimp only
  rw [ixN_y hp (by decide)]
  dsimp only
  rw [if_neg h0]
theorem sp_river {A : AS} {c v : Nat} (hc : c < 64) (hv : v < 100) (hn : 0 < aN A) (hn2 : aN A ≤ 12) (hs : ∀ i, i < aN A → (stp (aN A) (aT A) i).isSome = true) : spRiver A (nI c) (nI v) = spCh (aC A) 4 (.inr (.inr (.inr (.inl (c, v, aN A, stD (aN A) (aT A) 0))))) := by
  have e := stN_all hs (f := 12) (p := 0) (Nat.zero_le _) (by omega)
  rw [Nat.sub_zero] at e
  unfold spRiver
  rw [ixN_y hc (by decide)]
  dsimp only
  rw [ixN_y hv (by decide)]
  dsimp only
  rw [e, if_pos ⟨hn, rfl⟩]
theorem sp_rea {A : AS} {z : Int32 × Int32} {l : List (Int32 × Int32)} (h : aK A = z :: l) : spRea A (nI 0) false = ((0, z.1), A) := by
  unfold spRea
  rw [ixN_y (n := 3) (k := 0) (by decide) (by decide)]
  dsimp only
  rw [h]
  rfl
theorem ch_no {A : AS} {k : Nat} {q : Cmd} (h : grC (aS A) q ≠ 0) : spCh A k q = ((k, 0), mkA (aS A) (aV A) (aH A) (aN A) (aT A) (aL A) (kpC (aS A) q) (aE A)) := by
  unfold spCh
  rw [if_pos h]
theorem ch_ye {A : AS} {k : Nat} {q : Cmd} (h : grC (aS A) q = 0) : spCh A k q = ((0, crt (aS A) q), mkA (cdo (aS A) q) (aV A) (hPush (aH A) (aS A)) (aN A) (aT A) (aL A) (aK A) (aE A)) := by
  unfold spCh
  rw [if_neg (fun z => z h)]
/-- nothing was paid for yet -/
def dz_ (S : ST) (k : Nat) : Prop := nD S = 0 ∧ nR S ≤ k ∧ (∀ r, r < 4 → sC S r = nI 100 ∧ sW S r = nI 0 ∧ sL S r = nI 0) ∧ sM S 2 = nI 0 ∧ sM S 3 = nI 0 ∧ sM S 4 = nI 0
theorem dz_dw {S : ST} {k : Nat} (h : dz_ S k) : dwS S := by
  obtain ⟨h1, -, h2, h3⟩ := h
  refine ⟨fun i hi => by rw [h1] at hi; exact absurd hi (Nat.not_lt_zero _), fun r hr => ⟨?_, (h2 r hr).2⟩, h3⟩
  rw [h1]
  exact (h2 r hr).1
theorem dz_pa {S : ST} {k c : Nat} {v : Int32} (h : dz_ S k) : dz_ (cdo S (.inl (c, v))) k ∧ sM (cdo S (.inl (c, v))) 0 = sM S 0 := by
  have e : dOn S c = none := by
    unfold dOn
    rw [h.1]
    rfl
  have e2 : cdo S (.inl (c, v)) = pO S (upd (sO S) c v) := by
    show sGv S c v = _
    unfold sGv
    rw [e]
  rw [e2]
  exact ⟨h, rfl⟩
theorem dz_mi {S : ST} {k mm : Nat} (h : dz_ S k) : dz_ (cdo S (.inr (.inr (.inl mm)))) k := by
  obtain ⟨h1, h2, h3, h4, h5, h6⟩ := h
  exact ⟨h1, h2, h3, (show upd (sM S) 0 (nI mm) 2 = nI 0 from (upd_n (by decide)).trans h4), (show upd (sM S) 0 (nI mm) 3 = nI 0 from (upd_n (by decide)).trans h5), (show upd (sM S) 0 (nI mm) 4 = nI 0 from (upd_n (by decide)).trans h6)⟩
theorem dz_ri {S : ST} {k : Nat} {q : Nat × Nat × Nat × (Nat → Nat)} (h : dz_ S k) : dz_ (cdo S (.inr (.inr (.inr (.inl q))))) (k + 1) := by
  obtain ⟨h1, h2, h3⟩ := h
  obtain ⟨c, t, l, ds⟩ := q
  exact ⟨h1, by show nR S + 1 ≤ k + 1; omega, h3⟩
theorem cI_cg {S T : ST} {r : Nat} : ∀ {n : Nat}, (∀ k, k < n → dQ S k = dQ T k ∧ dP S k = dP T k) → cI S r n = cI T r n := by
  intro n
  induction n with
  | zero => intro _; rfl
  | succ n ih =>
    intro h
    have h1 := ih (fun k hk => h k (by omega))
    have h2 := h n (by omega)
    show (if dQ S n = r then cI S r n - nI (dP S n) else cI S r n) = if dQ T n = r then cI T r n - nI (dP T n) else cI T r n
    rw [h1, h2.1, h2.2]
theorem dw_ad {S : ST} {c p : Nat} (h : dwS S) (ho : okS S) (hc : c < 64) (hg : grC S (.inr (.inr (.inr (.inr (.inr (.inl (c, p))))))) = 0) : dwS (cdo S (.inr (.inr (.inr (.inr (.inr (.inl (c, p)))))))) := by
  have hn : sO S c ≠ -1 := fun e => by
    have hg : drS S c p = 0 := hg
    unfold drS at hg
    rw [if_pos e] at hg
    exact absurd hg (by decide)
  obtain ⟨a, ha4, hoa, hN⟩ := ow_ ho hc hn
  show dwS (sAD S c p (oN_ (sO S c)))
  rw [hN]
  obtain ⟨h1, h2, h3⟩ := h
  have old : ∀ k, k < nD S → va_up (dC S) (nD S) c k = dC S k ∧ va_up (dP S) (nD S) p k = dP S k ∧ va_up (dQ S) (nD S) a k = dQ S k := fun k hk => by
    unfold va_up
    rw [if_neg (by omega), if_neg (by omega), if_neg (by omega)]
    exact ⟨rfl, rfl, rfl⟩
  have new : va_up (dC S) (nD S) c (nD S) = c ∧ va_up (dP S) (nD S) p (nD S) = p ∧ va_up (dQ S) (nD S) a (nD S) = a := by
    unfold va_up
    rw [if_pos rfl, if_pos rfl, if_pos rfl]
    exact ⟨rfl, rfl, rfl⟩
  refine ⟨fun k hk => ?_, fun r hr => ⟨?_, (h2 r hr).2⟩, h3⟩
  · have hk : k < nD S + 1 := hk
    show sO S (va_up (dC S) (nD S) c k) = nI (va_up (dQ S) (nD S) a k)
    by_cases e : k < nD S
    · rw [(old k e).1, (old k e).2.2]
      exact h1 k e
    · obtain rfl : k = nD S := by omega
      rw [new.1, new.2.2]
      exact hoa
  · show upd (sC S) a (sC S a - nI p) r = cI (sAD S c p a) r (nD S + 1)
    have e2 : cI (sAD S c p a) r (nD S) = cI S r (nD S) := cI_cg (fun k hk => ⟨(old k hk).2.2, (old k hk).2.1⟩)
    have e3 : cI (sAD S c p a) r (nD S + 1) = if dQ (sAD S c p a) (nD S) = r then cI (sAD S c p a) r (nD S) - nI (dP (sAD S c p a) (nD S)) else cI (sAD S c p a) r (nD S) := rfl
    rw [e3, e2, show dQ (sAD S c p a) (nD S) = a from new.2.2, show dP (sAD S c p a) (nD S) = p from new.2.1]
    by_cases e : a = r
    · subst e
      rw [if_pos rfl, upd_s, (h2 a ha4).1]
    · rw [if_neg e, upd_n (fun q => e q.symm), (h2 r hr).1]
/-- a map that is being drawn -/
def DI (A : AS) (k : Nat) : Prop := aN A = 0 ∧ cnS (aS A) ∧ dz_ (aS A) k
set_option maxRecDepth 8000 in
theorem gL_drawn_x {G : GX} (hN : gN G ≤ 260) {bb : Nat} {T0 : va_W} {Z : ZT} {k D row fi la : Nat} (hD : D < 2 ^ 31) (hrow : row < 8) (hfi8 : fi < 8) (hla : la ≤ 7)
    (K : ∀ (w : WS) (A : AS) (v7 v8 : Option Value), aX A w → DI A 0 → sM (aS A) 0 = nI 1 → w.2 = T0 → Ev G 23 bb mL_drawn 119 [some (.ref 1000), some (.ref 0), some (.int (nI (k))), some (.int (nI (D))), some (.int (nI (row))), some (.int (nI (fi))), some (.int (nI (la))), v7, v8] [] w Z) :
    ∀ (n x : Nat) (w : WS) (A : AS) (v8 : Option Value), x + n = max fi (la + 1) → fi ≤ x → aX A w → DI A 0 → sM (aS A) 0 = nI 1 → w.2 = T0 → Ev G 23 (2 * n + bb) mL_drawn 62 [some (.ref 1000), some (.ref 0), some (.int (nI (k))), some (.int (nI (D))), some (.int (nI (row))), some (.int (nI (fi))), some (.int (nI (la))), some (.int (nI (x))), v8] [] w Z := by
  intro n
  induction n with
  | zero =>
    intro x w A v8 hx hfi hX hI h1 hT
    refine ev_iload dL_drawn_62 rfl ?_
    refine ev_iload dL_drawn_64 rfl ?_
    refine ev_icmp_gt_t (tgt := 119) dL_drawn_66 (by decide) (by show nI la < nI x; exact nI_lt (by omega) (by omega)) ?_
    exact ev_bu _ (by omega) (K w A _ v8 hX hI h1 hT)
  | succ n ih =>
    intro x w A v8 hx hfi hX hI h1 hT
    have hxl : x ≤ la := by omega
    have hc : 8 * row + x < 64 := by omega
    have hv := pv_ (Nat.mod_lt D (show 0 < 5 by decide))
    have hX0 := hX
    have at113 : ∀ (w : WS) (A : AS) (v8 : Option Value), aX A w → DI A 0 → sM (aS A) 0 = nI 1 → w.2 = T0 → Ev G 23 (2 * n + bb) mL_drawn 113 [some (.ref 1000), some (.ref 0), some (.int (nI (k))), some (.int (nI (D))), some (.int (nI (row))), some (.int (nI (fi))), some (.int (nI (la))), some (.int (nI (x))), v8] [] w Z := by
      intro w A v8 hX hI h1 hT
      refine ev_iinc7 dL_drawn_113 (nI_inc _) (by decide) rfl ?_
      refine ev_goto (tgt := 62) dL_drawn_116 (by decide) ?_
      exact ih (x + 1) w A v8 (by omega) (by omega) hX hI h1 hT
    refine ev_iload dL_drawn_62 rfl ?_
    refine ev_iload dL_drawn_64 rfl ?_
    refine ev_icmp_gt_f (tgt := 119) dL_drawn_66 (by decide) (by show ¬ nI la < nI x; exact nI_nlt hxl (by omega)) ?_
    refine ev_aload_n dL_drawn_69 rfl ?_
    refine ev_bipush (v := nI 8) dL_drawn_70 (by decide) ?_
    refine ev_iload dL_drawn_72 rfl ?_
    refine ev_imul dL_drawn_74 ?_
    refine ev_top (pk_mul _ _) ?_
    refine ev_iload dL_drawn_75 rfl ?_
    refine ev_iadd dL_drawn_77 ?_
    refine ev_top (nI_add _ _) ?_
    refine ev_iload_n dL_drawn_78 rfl ?_
    refine ev_iconst dL_drawn_79 ic5 ?_
    refine ev_irem dL_drawn_80 (by decide) ?_
    refine ev_top (pk_rem (by omega) (by decide) (by decide)) ?_
    refine ev_iconst dL_drawn_81 ic1 ?_
    refine ev_isub dL_drawn_82 ?_
    refine ev_q kL_164 (as := [.ref 0, .int (nI (8 * row + x)), .int (nI (D % 5) - nI 1)]) (rest := []) (hL_paint hX (nI (8 * row + x)) (nI (D % 5) - nI 1)) dL_drawn_83 rfl (by decide) (by omega) rfl (fun w2 hX hT2 => ?_)
    rw [sp_paint hc hv] at hX ⊢
    replace hT := hT2.trans hT
    generalize hQ : (Sum.inl (8 * row + x, nI (D % 5) - nI 1) : Cmd) = Q0 at hX ⊢
    by_cases hg : grC (aS A) Q0 = 0
    · rw [ch_ye hg] at hX ⊢
      refine ev_top (y := sO (aS A) (8 * row + x)) (by rw [← hQ]; rfl) ?_
      have ho := hX0.1.2
      refine ev_ist8 dL_drawn_86 (by decide) rfl ?_
      refine ev_iload dL_drawn_88 rfl ?_
      refine ev_iconst dL_drawn_90 icm1 ?_
      refine ev_icmp_ge_t (tgt := 113) dL_drawn_91 (by decide) (by rcases ho.1 _ hc with e | ⟨j, hj, e⟩ <;> first | (rw [e]; decide; done) | (rw [e]; exact Int32.le_trans (by decide : (-1 : Int32) ≤ 0) (Int32.not_lt.mp (nI_pos (by omega))))) ?_
      refine ev_bu _ (by omega) (at113 w2 _ _ hX ⟨hI.1, cn_do ho hI.2.1 (by rw [← hQ]; exact ⟨by omega, hv⟩) (by rw [← hQ]; exact decide_eq_true hc) hg, ?_⟩ ?_ hT)
      · rw [← hQ]; exact (dz_pa hI.2.2).1
      · rw [← hQ]; exact (dz_pa hI.2.2).2.trans h1
    · have hrea : nI (grC (aS A) Q0) = nI 1 := by
        subst hQ
        have hg2 : (if sO (aS A) (8 * row + x) = nI (D % 5) - nI 1 then 1 else 0) ≠ 0 := hg
        show nI (if sO (aS A) (8 * row + x) = nI (D % 5) - nI 1 then 1 else 0) = nI 1
        by_cases e : sO (aS A) (8 * row + x) = nI (D % 5) - nI 1
        · rw [if_pos e]
        · rw [if_neg e] at hg2
          exact absurd rfl hg2
      rw [ch_no hg] at hX ⊢
      refine ev_top (y := -14) rfl ?_
      refine ev_ist8 dL_drawn_86 (by decide) rfl ?_
      refine ev_iload dL_drawn_88 rfl ?_
      refine ev_iconst dL_drawn_90 icm1 ?_
      refine ev_icmp_ge_f (tgt := 113) dL_drawn_91 (by decide) (by decide) ?_
      refine ev_iload dL_drawn_94 rfl ?_
      refine ev_bipush (v := (-14)) dL_drawn_96 (by decide) ?_
      refine ev_icmp_ne_f (tgt := 111) dL_drawn_98 (by decide) rfl ?_
      refine ev_aload_n dL_drawn_101 rfl ?_
      refine ev_iconst dL_drawn_102 ic0 ?_
      refine ev_iconst dL_drawn_103 ic0 ?_
      refine ev_q kL_166 (as := [.ref 0, .int (nI 0), .int (bI false)]) (rest := []) (hL_reason hX (nI 0) false) dL_drawn_104 rfl (by decide) (by omega) rfl (fun w2 hX hT2 => ?_)
      rw [sp_rea (z := (nI (grC (aS A) Q0), dtC (aS A) Q0 (grC (aS A) Q0))) rfl] at hX ⊢
      refine ev_top (y := nI 1) hrea ?_
      replace hT := hT2.trans hT
      refine ev_iconst dL_drawn_107 ic1 ?_
      refine ev_icmp_eq_t (tgt := 113) dL_drawn_108 (by decide) rfl ?_
      exact ev_bu _ (by omega) (at113 w2 _ _ hX ⟨hI.1, hI.2.1, hI.2.2⟩ h1 hT)
set_option maxRecDepth 8000 in
theorem gL_drawn_k {G : GX} (hN : gN G ≤ 260) {bb : Nat} {T0 : va_W} {Z : ZT}
    (K : ∀ (w : WS) (A : AS) (v3 v4 v5 v6 v7 v8 : Option Value), aX A w → DI A 0 → sM (aS A) 0 = nI 1 → w.2 = T0 → Ev G 23 bb mL_drawn 125 [some (.ref 1000), some (.ref 0), some (.int (nI (12))), v3, v4, v5, v6, v7, v8] [] w Z) :
    ∀ (n k : Nat) (w : WS) (A : AS) (v3 v4 v5 v6 v7 v8 : Option Value), k + n = 12 → aX A w → DI A 0 → sM (aS A) 0 = nI 1 → w.2 = T0 → Ev G 23 (20 * n + bb) mL_drawn 10 [some (.ref 1000), some (.ref 0), some (.int (nI (k))), v3, v4, v5, v6, v7, v8] [] w Z := by
  intro n
  induction n with
  | zero =>
    intro k w A v3 v4 v5 v6 v7 v8 hk hX hI h1 hT
    obtain rfl : k = 12 := by omega
    refine ev_iload_n dL_drawn_10 rfl ?_
    refine ev_bipush (v := nI 12) dL_drawn_11 (by decide) ?_
    refine ev_icmp_ge_t (tgt := 125) dL_drawn_13 (by decide) (Int32.le_refl _) ?_
    exact ev_bu _ (by omega) (K w A _ _ _ _ _ _ hX hI h1 hT)
  | succ n ih =>
    intro k w A v3 v4 v5 v6 v7 v8 hkn hX hI h1 hT
    have hk : k < 12 := by omega
    have hD := hf_lt (cel G k)
    refine ev_iload_n dL_drawn_10 rfl ?_
    refine ev_bipush (v := nI 12) dL_drawn_11 (by decide) ?_
    refine ev_icmp_ge_f (tgt := 125) dL_drawn_13 (by decide) (nI_ge hk (by decide)) ?_
    refine ev_aload_n dL_drawn_16 rfl ?_
    refine ev_iload_n dL_drawn_17 rfl ?_
    refine ev_callS (w := w) kL_155 (as := [.ref 1000, .int (nI (k))]) (rest := []) (gL_cell (by omega) hN) dL_drawn_18 rfl (by decide) (Nat.zero_le _) rfl ?_
    refine ev_iconst dL_drawn_21 ic1 ?_
    refine ev_iushr dL_drawn_22 (us_1 _) ?_
    generalize hf_ (cel G k) = D at hD ⊢
    refine ev_ist3 dL_drawn_23 (by decide) rfl ?_
    refine ev_iload_n dL_drawn_24 rfl ?_
    refine ev_bipush (v := nI 6) dL_drawn_25 (by decide) ?_
    refine ev_iushr dL_drawn_27 (us_v hD (s := 6) (by decide)) ?_
    refine ev_bipush (v := nI 8) dL_drawn_28 (by decide) ?_
    refine ev_irem dL_drawn_30 (by decide) ?_
    refine ev_top (pk_rem (Nat.lt_of_le_of_lt (Nat.div_le_self _ _) hD) (by decide) (by decide)) ?_
    refine ev_ist4 dL_drawn_31 (by decide) rfl ?_
    refine ev_iload_n dL_drawn_33 rfl ?_
    refine ev_bipush (v := nI 9) dL_drawn_34 (by decide) ?_
    refine ev_iushr dL_drawn_36 (us_v hD (s := 9) (by decide)) ?_
    refine ev_bipush (v := nI 8) dL_drawn_37 (by decide) ?_
    refine ev_irem dL_drawn_39 (by decide) ?_
    refine ev_top (pk_rem (Nat.lt_of_le_of_lt (Nat.div_le_self _ _) hD) (by decide) (by decide)) ?_
    refine ev_ist5 dL_drawn_40 (by decide) rfl ?_
    refine ev_bipush (v := nI 7) dL_drawn_42 (by decide) ?_
    refine ev_iload dL_drawn_44 rfl ?_
    refine ev_iload_n dL_drawn_46 rfl ?_
    refine ev_bipush (v := nI 12) dL_drawn_47 (by decide) ?_
    refine ev_iushr dL_drawn_49 (us_v hD (s := 12) (by decide)) ?_
    refine ev_iconst dL_drawn_50 ic5 ?_
    refine ev_irem dL_drawn_51 (by decide) ?_
    refine ev_top (pk_rem (Nat.lt_of_le_of_lt (Nat.div_le_self _ _) hD) (by decide) (by decide)) ?_
    refine ev_iadd dL_drawn_52 ?_
    refine ev_top (nI_add _ _) ?_
    refine ev_min aL_159 dL_drawn_53 rfl ?_
    refine ev_top (mn_ (by decide) (by omega)) ?_
    refine ev_ist6 dL_drawn_56 (by decide) rfl ?_
    refine ev_iload dL_drawn_58 rfl ?_
    refine ev_ist7 dL_drawn_60 (by decide) rfl ?_
    refine ev_bu (2 * 8 + (20 * n + bb)) (by omega) (ev_bu (2 * (max (D / 2 ^ 9 % 8) (min 7 (D / 2 ^ 9 % 8 + D / 2 ^ 12 % 5) + 1) - D / 2 ^ 9 % 8) + (20 * n + bb)) (by omega) (gL_drawn_x hN hD (Nat.mod_lt _ (by decide)) (Nat.mod_lt _ (by decide)) (Nat.min_le_left _ _) (fun w A v7 v8 hX hI h1 hT => ?_) _ _ w A v8 (by omega) (Nat.le_refl _) hX hI h1 hT))
    refine ev_iinc2 dL_drawn_119 (nI_inc _) (by decide) rfl ?_
    refine ev_goto (tgt := 10) dL_drawn_122 (by decide) ?_
    exact ih (k + 1) w A _ _ _ _ _ _ (by omega) hX hI h1 hT
set_option maxRecDepth 8000 in
theorem gL_drawn_t {G : GX} {bb : Nat} {T0 : va_W} {Z : ZT} {A : AS} {D mn : Nat} (hD : D < 2 ^ 31) (hm : mn ≤ 12) {v2 v3 v8 : Option Value}
    (K : ∀ (w : WS) (t : Nat), aX A w → T0.Sublist w.2 → str_ G w.2 t (stL D mn) → Ev G 23 bb mL_drawn 239 [some (.ref 1000), some (.ref 0), v2, v3, some (.int (nI (D))), some (.ref t), some (.int (nI (mn))), some (.int (nI (mn))), v8] [] w Z) :
    ∀ (n i : Nat) (w : WS) (t : Nat), i + n = mn → aX A w → T0.Sublist w.2 → str_ G w.2 t (stL D i) → Ev G 23 (1300 * n + bb) mL_drawn 192 [some (.ref 1000), some (.ref 0), v2, v3, some (.int (nI (D))), some (.ref t), some (.int (nI (mn))), some (.int (nI (i))), v8] [] w Z := by
  intro n
  induction n with
  | zero =>
    intro i w t hi hX hT hs
    obtain rfl : i = mn := by omega
    refine ev_iload dL_drawn_192 rfl ?_
    refine ev_iload dL_drawn_194 rfl ?_
    refine ev_icmp_ge_t (tgt := 239) dL_drawn_196 (by decide) (Int32.le_refl _) ?_
    exact ev_bu _ (by omega) (K w t hX hT hs)
  | succ n ih =>
    intro i w t hin hX hT hs
    have hi : i < mn := by omega
    have hj : D / 2 ^ (4 + i) % 4 < 4 := Nat.mod_lt _ (by decide)
    refine ev_iload dL_drawn_192 rfl ?_
    refine ev_iload dL_drawn_194 rfl ?_
    refine ev_icmp_ge_f (tgt := 239) dL_drawn_196 (by decide) (nI_ge hi (by omega)) ?_
    refine ev_newT mk_L_174 (by omega) dL_drawn_199 (fun a => ?_)
    refine ev_dup dL_drawn_202 rfl ?_
    refine ev_callIP iL_176 (as := []) (rest := [dy a]) (cJ4_init (x := w.1) (T := w.2)) dL_drawn_203 rfl (by decide) (by omega) rfl (fun r0 w3 hp => ?_)
    obtain ⟨rfl, hb⟩ := hp
    refine ev_aload dL_drawn_206 rfl ?_
    refine ev_callVP kL_177 (as := [.ref t]) (rest := []) (sb_rv hb) (cJ4_appStr hb hs (by rw [stL_n]; simp; omega)) dL_drawn_208 rfl (by decide) (by omega) rfl (fun r0 w3 hp => ?_)
    obtain ⟨rfl, hb⟩ := hp
    refine ev_ldcS 1 rfl rfl dL_drawn_211 ?_
    refine ev_iload dL_drawn_213 rfl ?_
    refine ev_iconst dL_drawn_215 ic4 ?_
    refine ev_iload dL_drawn_216 rfl ?_
    refine ev_iadd dL_drawn_218 ?_
    refine ev_top (nI_add _ _) ?_
    refine ev_iushr dL_drawn_219 (us_v hD (s := 4 + i) (by omega)) ?_
    refine ev_iconst dL_drawn_220 ic4 ?_
    refine ev_irem dL_drawn_221 (by decide) ?_
    refine ev_top (pk_rem (Nat.lt_of_le_of_lt (Nat.div_le_self _ _) hD) (by decide) (by decide)) ?_
    obtain ⟨f0, hq0, hx0⟩ := id (ltx_1 (G := G) (T := w3.2))
    refine ev_callVg kL_135 (as := [.int (nI (D / 2 ^ (4 + i) % 4))]) (rest := [dy a]) (sv_rv hq0) (cJ0_charAt (L := [110, 101, 115, 119]) ⟨f0, hq0, hx0⟩ hj (by decide)) dL_drawn_222 rfl (by decide) (by omega) rfl ?_
    refine ev_top (y := nI (nsw (D / 2 ^ (4 + i) % 4))) rfl ?_
    refine ev_callVP kL_182 (as := [.int (nI (nsw (D / 2 ^ (4 + i) % 4)))]) (rest := []) (sb_rv hb) (cJ4_appChr hb (nsw_ok ⟨_, hj⟩).2.2.1 (by simp [stL_n]; omega)) dL_drawn_225 rfl (by decide) (by omega) rfl (fun r0 w3 hp => ?_)
    obtain ⟨rfl, hb⟩ := hp
    refine ev_callVP kL_185 (as := []) (rest := []) (sb_rv hb) (cJ4_toString hb) dL_drawn_228 rfl (by decide) (by omega) rfl (fun r0 w3 hp => ?_)
    obtain ⟨s, rfl, hst⟩ := hp
    obtain ⟨hs1, hs2, hs3, hs4⟩ := stI_u hst
    refine ev_ast5 dL_drawn_231 (by decide) rfl ?_
    refine ev_iinc7 dL_drawn_233 (nI_inc _) (by decide) rfl ?_
    refine ev_goto (tgt := 192) dL_drawn_236 (by decide) ?_
    exact ev_bu _ (by omega) (ih (i + 1) w3 _ (by omega) (aX_of hs1 hX) (hT.trans hs2) (by rw [stL_s]; simpa using hs3))
set_option maxRecDepth 8000 in
theorem gL_drawn_r {G : GX} (hN : gN G ≤ 260) {bb : Nat} {T0 : va_W} {Z : ZT} {C : Nat} (hC : C < 2 ^ 31)
    (K : ∀ (w : WS) (A : AS) (v4 v5 v6 v7 v8 : Option Value), aX A w → DI A 3 → T0.Sublist w.2 → Ev G 23 bb mL_drawn 293 [some (.ref 1000), some (.ref 0), some (.int (nI (C))), some (.int (nI (3))), v4, v5, v6, v7, v8] [] w Z) :
    ∀ (n k : Nat) (w : WS) (A : AS) (v4 v5 v6 v7 v8 : Option Value), k + n = 3 → aX A w → DI A k → T0.Sublist w.2 → Ev G 23 (16000 * n + bb) mL_drawn 159 [some (.ref 1000), some (.ref 0), some (.int (nI (C))), some (.int (nI (k))), v4, v5, v6, v7, v8] [] w Z := by
  intro n
  induction n with
  | zero =>
    intro k w A v4 v5 v6 v7 v8 hk hX hI hT
    obtain rfl : k = 3 := by omega
    refine ev_iload_n dL_drawn_159 rfl ?_
    refine ev_iconst dL_drawn_160 ic3 ?_
    refine ev_icmp_ge_t (tgt := 293) dL_drawn_161 (by decide) (Int32.le_refl _) ?_
    exact ev_bu _ (by omega) (K w A _ _ _ _ _ hX hI hT)
  | succ n ih =>
    intro k w A v4 v5 v6 v7 v8 hkn hX hI hT
    have hk : k < 3 := by omega
    have hD := hf_lt (cel G (13 + k))
    refine ev_iload_n dL_drawn_159 rfl ?_
    refine ev_iconst dL_drawn_160 ic3 ?_
    refine ev_icmp_ge_f (tgt := 293) dL_drawn_161 (by decide) (nI_ge hk (by decide)) ?_
    refine ev_aload_n dL_drawn_164 rfl ?_
    refine ev_bipush (v := nI 13) dL_drawn_165 (by decide) ?_
    refine ev_iload_n dL_drawn_167 rfl ?_
    refine ev_iadd dL_drawn_168 ?_
    refine ev_top (nI_add _ _) ?_
    refine ev_callS (w := w) kL_155 (as := [.ref 1000, .int (nI (13 + k))]) (rest := []) (gL_cell (by omega) hN) dL_drawn_169 rfl (by decide) (Nat.zero_le _) rfl ?_
    refine ev_iconst dL_drawn_172 ic1 ?_
    refine ev_iushr dL_drawn_173 (us_1 _) ?_
    generalize hf_ (cel G (13 + k)) = D at hD ⊢
    have hmn : 1 + D % 12 ≤ 12 := by omega
    have hX00 := hX
    refine ev_ist4 dL_drawn_174 (by decide) rfl ?_
    refine ev_ldcS 0 rfl rfl dL_drawn_176 ?_
    refine ev_ast5 dL_drawn_178 (by decide) rfl ?_
    refine ev_iconst dL_drawn_180 ic1 ?_
    refine ev_iload dL_drawn_181 rfl ?_
    refine ev_bipush (v := nI 12) dL_drawn_183 (by decide) ?_
    refine ev_irem dL_drawn_185 (by decide) ?_
    refine ev_top (pk_rem (by omega) (by decide) (by decide)) ?_
    refine ev_iadd dL_drawn_186 ?_
    refine ev_top (nI_add _ _) ?_
    refine ev_ist6 dL_drawn_187 (by decide) rfl ?_
    refine ev_iconst dL_drawn_189 ic0 ?_
    refine ev_ist7 dL_drawn_190 (by decide) rfl ?_
    refine ev_bu (1300 * (1 + D % 12) + (16000 * n + 300 + bb)) (by omega) (gL_drawn_t (A := A) (T0 := T0) hD hmn (fun w t hX hT hs => ?_) (1 + D % 12) 0 w _ (by omega) hX hT ltx_0)
    have hc : D / 2 ^ 3 % 64 < 64 := Nat.mod_lt _ (by decide)
    have hv : C / 2 ^ (4 + k) % 100 < 100 := Nat.mod_lt _ (by decide)
    refine ev_aload_n dL_drawn_239 rfl ?_
    refine ev_iload dL_drawn_240 rfl ?_
    refine ev_iconst dL_drawn_242 ic3 ?_
    refine ev_iushr dL_drawn_243 (us_v hD (s := 3) (by decide)) ?_
    refine ev_bipush (v := nI 64) dL_drawn_244 (by decide) ?_
    refine ev_irem dL_drawn_246 (by decide) ?_
    refine ev_top (pk_rem (Nat.lt_of_le_of_lt (Nat.div_le_self _ _) hD) (by decide) (by decide)) ?_
    refine ev_aload dL_drawn_247 rfl ?_
    refine ev_iload_n dL_drawn_249 rfl ?_
    refine ev_iconst dL_drawn_250 ic4 ?_
    refine ev_iload_n dL_drawn_251 rfl ?_
    refine ev_iadd dL_drawn_252 ?_
    refine ev_top (nI_add _ _) ?_
    refine ev_iushr dL_drawn_253 (us_v hC (s := 4 + k) (by omega)) ?_
    refine ev_bipush (v := nI 100) dL_drawn_254 (by decide) ?_
    refine ev_irem dL_drawn_256 (by decide) ?_
    refine ev_top (pk_rem (Nat.lt_of_le_of_lt (Nat.div_le_self _ _) hC) (by decide) (by decide)) ?_
    refine ev_callSP kL_189 (as := [.ref 0, .int (nI (D / 2 ^ 3 % 64)), .ref t, .int (nI (C / 2 ^ (4 + k) % 100))]) (rest := []) (gL_draws hX hI.1 hs (by rw [stL_n]; omega) (stL_ty _ _) (nI (D / 2 ^ 3 % 64)) (nI (C / 2 ^ (4 + k) % 100))) dL_drawn_257 rfl (by decide) (by omega) rfl (fun r0 w2 hp => ?_)
    obtain ⟨hT2, ty, hty, rfl, hX⟩ := hp
    replace hT : T0.Sublist w2.2 := by rw [hT2]; exact hT
    have hsom : ∀ i, i < (stL D (1 + D % 12)).length → (stp (stL D (1 + D % 12)).length ty i).isSome = true := by
      intro i hi
      unfold stp
      rw [if_pos hi, hty i hi]
      obtain ⟨j, hj, e⟩ := stL_m (getD_mem hi)
      rw [e]
      exact (nsw_ok ⟨j, hj⟩).2.2.2
    rw [sp_river (A := mkA (aS A) (aV A) (aH A) (stL D (1 + D % 12)).length ty (aL A) (aK A) (aE A)) hc hv (by show 0 < (stL D (1 + D % 12)).length; rw [stL_n]; omega) (by show (stL D (1 + D % 12)).length ≤ 12; rw [stL_n]; omega) hsom] at hX ⊢
    have hdl : ∀ j, j < (stL D (1 + D % 12)).length → stD (stL D (1 + D % 12)).length ty 0 j < 4 := fun j hj => by
      refine (stD_at (n := (stL D (1 + D % 12)).length) (t := ty) (f := 12) (p := 0) (k := j) ?_).2
      rw [stN_all hsom (Nat.zero_le _) (by rw [stL_n]; omega)]
      omega
    have hlen : (stL D (1 + D % 12)).length = 1 + D % 12 := stL_n _ _
    obtain ⟨hI1, hI2, hI3⟩ := hI
    generalize hB : aC (mkA (aS A) (aV A) (aH A) (stL D (1 + D % 12)).length ty (aL A) (aK A) (aE A)) = B at hX ⊢
    have hBS : aS B = aS A := by rw [← hB]; rfl
    have hBN : aN B = 0 := by rw [← hB]; rfl
    generalize hQ : (Sum.inr (Sum.inr (Sum.inr (Sum.inl (D / 2 ^ 3 % 64, C / 2 ^ (4 + k) % 100, aN (mkA (aS A) (aV A) (aH A) (stL D (1 + D % 12)).length ty (aL A) (aK A) (aE A)), stD (aN (mkA (aS A) (aV A) (aH A) (stL D (1 + D % 12)).length ty (aL A) (aK A) (aE A))) (aT (mkA (aS A) (aV A) (aH A) (stL D (1 + D % 12)).length ty (aL A) (aK A) (aE A))) 0)))) : Cmd) = Q0 at hX ⊢
    have hQ : (Sum.inr (Sum.inr (Sum.inr (Sum.inl (D / 2 ^ 3 % 64, C / 2 ^ (4 + k) % 100, (stL D (1 + D % 12)).length, stD (stL D (1 + D % 12)).length ty 0)))) : Cmd) = Q0 := hQ
    have at287 : ∀ (w : WS) (A : AS) (v7 : Option Value), aX A w → DI A (k + 1) → T0.Sublist w.2 → Ev G 23 (16000 * n + 100 + bb) mL_drawn 287 [some (.ref 1000), some (.ref 0), some (.int (nI (C))), some (.int (nI (k))), some (.int (nI (D))), some (.ref t), some (.int (nI (1 + D % 12))), v7, v8] [] w Z := by
      intro w A v7 hX hI hT
      refine ev_iinc3 dL_drawn_287 (nI_inc _) (by decide) rfl ?_
      refine ev_goto (tgt := 159) dL_drawn_290 (by decide) ?_
      exact ev_bu _ (by omega) (ih (k + 1) w A _ _ _ _ _ (by omega) hX hI hT)
    by_cases hg : grC (aS B) Q0 = 0
    · rw [ch_ye hg] at hX ⊢
      have ho : okS (aS B) := by rw [hBS]; exact hX00.1.2
      refine ev_top (y := nI (nR (aS A))) (by rw [← hQ, ← hBS]; rfl) ?_
      refine ev_ist7 dL_drawn_260 (by decide) rfl ?_
      refine ev_iload dL_drawn_262 rfl ?_
      refine ev_if_ge_t (tgt := 287) dL_drawn_264 (by decide) (Int32.not_lt.mp (nI_pos (by have := hI3.2.1; omega))) ?_
      refine ev_bu _ (by omega) (at287 w2 _ _ hX ⟨hBN, cn_do ho (by rw [hBS]; exact hI2) ?_ ?_ hg, ?_⟩ hT)
      · rw [← hQ]; exact ⟨by omega, hv, by omega, by omega, fun j hj => hdl j hj⟩
      · rw [← hQ]; exact decide_eq_true hc
      · rw [← hQ, hBS]; exact dz_ri hI3
    · have hrea : nI (grC (aS B) Q0) = nI 7 := by
        subst hQ
        have hg2 : rvS (aS B) (D / 2 ^ 3 % 64) (stL D (1 + D % 12)).length (stD (stL D (1 + D % 12)).length ty 0) ≠ 0 := hg
        show nI (rvS (aS B) (D / 2 ^ 3 % 64) (stL D (1 + D % 12)).length (stD (stL D (1 + D % 12)).length ty 0)) = nI 7
        unfold rvS at hg2 ⊢
        have hn4 : ¬ 4 ≤ nR (aS B) := by rw [hBS]; have := hI3.2.1; omega
        rw [if_neg hn4] at hg2 ⊢
        split
        · rfl
        · rename_i z
          rw [if_neg z] at hg2
          exact absurd rfl hg2
      rw [ch_no hg] at hX ⊢
      refine ev_top (y := -14) rfl ?_
      refine ev_ist7 dL_drawn_260 (by decide) rfl ?_
      refine ev_iload dL_drawn_262 rfl ?_
      refine ev_if_ge_f (tgt := 287) dL_drawn_264 (by decide) (by decide) ?_
      refine ev_iload dL_drawn_267 rfl ?_
      refine ev_bipush (v := (-14)) dL_drawn_269 (by decide) ?_
      refine ev_icmp_ne_f (tgt := 285) dL_drawn_271 (by decide) rfl ?_
      refine ev_aload_n dL_drawn_274 rfl ?_
      refine ev_iconst dL_drawn_275 ic0 ?_
      refine ev_iconst dL_drawn_276 ic0 ?_
      refine ev_q kL_166 (as := [.ref 0, .int (nI 0), .int (bI false)]) (rest := []) (hL_reason hX (nI 0) false) dL_drawn_277 rfl (by decide) (by omega) rfl (fun w2 hX hT2 => ?_)
      rw [sp_rea (z := (nI (grC (aS B) Q0), dtC (aS B) Q0 (grC (aS B) Q0))) rfl] at hX ⊢
      refine ev_top (y := nI 7) hrea ?_
      replace hT : T0.Sublist w2.2 := by rw [hT2]; exact hT
      refine ev_bipush (v := nI 7) dL_drawn_280 (by decide) ?_
      refine ev_icmp_eq_t (tgt := 287) dL_drawn_282 (by decide) rfl ?_
      exact ev_bu _ (by omega) (at287 w2 _ _ hX ⟨hBN, by rw [show aS (mkA (aS B) (aV B) (aH B) (aN B) (aT B) (aL B) (kpC (aS B) Q0) (aE B)) = aS A from hBS]; exact hI2, by rw [show aS (mkA (aS B) (aV B) (aH B) (aN B) (aT B) (aL B) (kpC (aS B) Q0) (aE B)) = aS A from hBS]; exact ⟨hI3.1, by have := hI3.2.1; omega, hI3.2.2⟩⟩ hT)
set_option maxRecDepth 8000 in
theorem gL_drawn_d {G : GX} (hN : gN G ≤ 260) {bb : Nat} {T0 : va_W} {Z : ZT} {v2 : Int32} {v6 v7 v8 : Option Value}
    (K : ∀ (w : WS) (A : AS) (v4 v5 : Option Value), aX A w → aN A = 0 → cnS (aS A) → dwS (aS A) → T0.Sublist w.2 → Ev G 23 bb mL_drawn 353 [some (.ref 1000), some (.ref 0), some (.int v2), some (.int (nI (5))), v4, v5, v6, v7, v8] [] w Z) :
    ∀ (n k : Nat) (w : WS) (A : AS) (v4 v5 : Option Value), k + n = 5 → aX A w → aN A = 0 → cnS (aS A) → dwS (aS A) → T0.Sublist w.2 → Ev G 23 (2 * n + bb) mL_drawn 295 [some (.ref 1000), some (.ref 0), some (.int v2), some (.int (nI (k))), v4, v5, v6, v7, v8] [] w Z := by
  intro n
  induction n with
  | zero =>
    intro k w A v4 v5 hk hX hA hcn hd hT
    obtain rfl : k = 5 := by omega
    refine ev_iload_n dL_drawn_295 rfl ?_
    refine ev_iconst dL_drawn_296 ic5 ?_
    refine ev_icmp_ge_t (tgt := 353) dL_drawn_297 (by decide) (Int32.le_refl _) ?_
    exact ev_bu _ (by omega) (K w A _ _ hX hA hcn hd hT)
  | succ n ih =>
    intro k w A v4 v5 hkn hX hA hcn hd hT
    have hk : k < 5 := by omega
    have hD := hf_lt (cel G (16 + k))
    refine ev_iload_n dL_drawn_295 rfl ?_
    refine ev_iconst dL_drawn_296 ic5 ?_
    refine ev_icmp_ge_f (tgt := 353) dL_drawn_297 (by decide) (nI_ge hk (by decide)) ?_
    refine ev_aload_n dL_drawn_300 rfl ?_
    refine ev_bipush (v := nI 16) dL_drawn_301 (by decide) ?_
    refine ev_iload_n dL_drawn_303 rfl ?_
    refine ev_iadd dL_drawn_304 ?_
    refine ev_top (nI_add _ _) ?_
    refine ev_callS (w := w) kL_155 (as := [.ref 1000, .int (nI (16 + k))]) (rest := []) (gL_cell (by omega) hN) dL_drawn_305 rfl (by decide) (Nat.zero_le _) rfl ?_
    refine ev_iconst dL_drawn_308 ic1 ?_
    refine ev_iushr dL_drawn_309 (us_1 _) ?_
    generalize hf_ (cel G (16 + k)) = D at hD ⊢
    have hc : D % 64 < 64 := Nat.mod_lt _ (by decide)
    have hp : 1 + D / 2 ^ 6 % 50 < 51 := by have := Nat.mod_lt (D / 2 ^ 6) (show 0 < 50 by decide); omega
    have hX00 := hX
    refine ev_ist4 dL_drawn_310 (by decide) rfl ?_
    refine ev_aload_n dL_drawn_312 rfl ?_
    refine ev_iload dL_drawn_313 rfl ?_
    refine ev_bipush (v := nI 64) dL_drawn_315 (by decide) ?_
    refine ev_irem dL_drawn_317 (by decide) ?_
    refine ev_top (pk_rem (by omega) (by decide) (by decide)) ?_
    refine ev_iconst dL_drawn_318 ic1 ?_
    refine ev_iload dL_drawn_319 rfl ?_
    refine ev_bipush (v := nI 6) dL_drawn_321 (by decide) ?_
    refine ev_iushr dL_drawn_323 (us_v hD (s := 6) (by decide)) ?_
    refine ev_bipush (v := nI 50) dL_drawn_324 (by decide) ?_
    refine ev_irem dL_drawn_326 (by decide) ?_
    refine ev_top (pk_rem (Nat.lt_of_le_of_lt (Nat.div_le_self _ _) hD) (by decide) (by decide)) ?_
    refine ev_iadd dL_drawn_327 ?_
    refine ev_top (nI_add _ _) ?_
    refine ev_q kL_193 (as := [.ref 0, .int (nI (D % 64)), .int (nI (1 + D / 2 ^ 6 % 50))]) (rest := []) (hL_dragon hX (nI (D % 64)) (nI (1 + D / 2 ^ 6 % 50))) dL_drawn_328 rfl (by decide) (by omega) rfl (fun w2 hX hT2 => ?_)
    rw [sp_dragon hc hp (by omega)] at hX ⊢
    replace hT : T0.Sublist w2.2 := by rw [hT2]; exact hT
    have at347 : ∀ (w : WS) (A : AS) (v5 : Option Value), aX A w → aN A = 0 → cnS (aS A) → dwS (aS A) → T0.Sublist w.2 → Ev G 23 (2 * n + bb) mL_drawn 347 [some (.ref 1000), some (.ref 0), some (.int v2), some (.int (nI (k))), some (.int (nI (D))), v5, v6, v7, v8] [] w Z := by
      intro w A v5 hX hA hcn hd hT
      refine ev_iinc3 dL_drawn_347 (nI_inc _) (by decide) rfl ?_
      refine ev_goto (tgt := 295) dL_drawn_350 (by decide) ?_
      exact ih (k + 1) w A _ _ (by omega) hX hA hcn hd hT
    by_cases hg : grC (aS A) (.inr (.inr (.inr (.inr (.inr (.inl (D % 64, 1 + D / 2 ^ 6 % 50))))))) = 0
    · rw [ch_ye hg] at hX ⊢
      have ho := hX00.1.2
      refine ev_top (y := nI (nD (aS A))) rfl ?_
      refine ev_ist5 dL_drawn_331 (by decide) rfl ?_
      refine ev_iload dL_drawn_333 rfl ?_
      refine ev_if_ge_t (tgt := 347) dL_drawn_335 (by decide) (Int32.not_lt.mp (nI_pos (by have := ho.2.2.1.1; omega))) ?_
      exact ev_bu _ (by omega) (at347 w2 _ _ hX hA (cn_do ho hcn ⟨by omega, by omega⟩ (by show (decide (D % 64 < 64) && decide (1 ≤ 1 + D / 2 ^ 6 % 50 ∧ 1 + D / 2 ^ 6 % 50 ≤ 50)) = true; rw [decide_eq_true hc, decide_eq_true (by omega)]; rfl) hg) (dw_ad hd ho hc hg) hT)
    · rw [ch_no hg] at hX ⊢
      refine ev_top (y := -14) rfl ?_
      refine ev_ist5 dL_drawn_331 (by decide) rfl ?_
      refine ev_iload dL_drawn_333 rfl ?_
      refine ev_if_ge_f (tgt := 347) dL_drawn_335 (by decide) (by decide) ?_
      refine ev_iload dL_drawn_338 rfl ?_
      refine ev_bipush (v := (-14)) dL_drawn_340 (by decide) ?_
      refine ev_icmp_eq_t (tgt := 347) dL_drawn_342 (by decide) rfl ?_
      exact ev_bu _ (by omega) (at347 w2 _ _ hX hA hcn hd hT)
set_option maxRecDepth 8000 in
theorem gL_drawn_ {G : GX} (hN : gN G ≤ 260) {bb : Nat} {Z : ZT} {w : WS} {A : AS} (hX : aX A w) (hI : DI A 0) (h1 : sM (aS A) 0 = nI 1)
    (K : ∀ (w2 : WS) (A : AS) (v2 v3 v4 v5 v6 v7 v8 : Option Value), aX A w2 → aN A = 0 → cnS (aS A) → dwS (aS A) → w2.2 = w.2 → Ev G 23 bb mL_drawn 353 [some (.ref 1000), some (.ref 0), v2, v3, v4, v5, v6, v7, v8] [] w2 Z) :
    Ev G 23 (50000 + bb) mL_drawn 8 [some (.ref 1000), some (.ref 0), none, none, none, none, none, none, none] [] w Z := by
  refine ev_iconst dL_drawn_8 ic0 ?_
  refine ev_ist2 dL_drawn_9 (by decide) rfl ?_
  refine ev_bu (20 * 12 + (49000 + bb)) (by omega) (gL_drawn_k hN (T0 := w.2) (fun w1 A v3 v4 v5 v6 v7 v8 hX hI h1 hT => ?_) 12 0 w A _ _ _ _ _ _ rfl hX hI h1 rfl)
  have hC := hf_lt (cel G 12)
  refine ev_aload_n dL_drawn_125 rfl ?_
  refine ev_bipush (v := nI 12) dL_drawn_126 (by decide) ?_
  refine ev_callS (w := w1) kL_155 (as := [.ref 1000, .int (nI (12))]) (rest := []) (gL_cell (by omega) hN) dL_drawn_128 rfl (by decide) (Nat.zero_le _) rfl ?_
  refine ev_iconst dL_drawn_131 ic1 ?_
  refine ev_iushr dL_drawn_132 (us_1 _) ?_
  generalize hf_ (cel G 12) = C at hC ⊢
  have at157 : ∀ (w1 : WS) (A : AS) (v3 v4 v5 v6 v7 v8 : Option Value), aX A w1 → DI A 0 → w1.2 = w.2 → Ev G 23 (48500 + bb) mL_drawn 157 [some (.ref 1000), some (.ref 0), some (.int (nI (C))), v3, v4, v5, v6, v7, v8] [] w1 Z := by
    intro w1 A v3 v4 v5 v6 v7 v8 hX hI hT
    refine ev_iconst dL_drawn_157 ic0 ?_
    refine ev_ist3 dL_drawn_158 (by decide) rfl ?_
    refine ev_bu (16000 * 3 + (2 * 5 + bb)) (by omega) (gL_drawn_r hN (T0 := w.2) hC (fun w1 A v4 v5 v6 v7 v8 hX hI hT => ?_) 3 0 w1 A _ _ _ _ _ rfl hX hI (by rw [hT]; exact List.Sublist.refl _))
    refine ev_iconst dL_drawn_293 ic0 ?_
    refine ev_ist3 dL_drawn_294 (by decide) rfl ?_
    refine gL_drawn_d hN (T0 := w.2) (fun w1 A v4 v5 hX hA hcn hd hT => ?_) 5 0 w1 A _ _ rfl hX hI.1 hI.2.1 (dz_dw hI.2.2) hT
    refine ev_tl (T' := w.2) hT ?_
    exact K _ A _ _ _ _ _ _ _ (aX_of rfl hX) hA hcn hd rfl
  refine ev_ist2 dL_drawn_133 (by decide) rfl ?_
  refine ev_iload_n dL_drawn_134 rfl ?_
  refine ev_bipush (v := nI 9) dL_drawn_135 (by decide) ?_
  refine ev_irem dL_drawn_137 (by decide) ?_
  refine ev_top (pk_rem (by omega) (by decide) (by decide)) ?_
  by_cases h0 : C % 9 = 0
  · refine ev_if_le_t (tgt := 157) dL_drawn_138 (by decide) (by rw [h0]; decide) ?_
    exact ev_bu _ (by omega) (at157 w1 A _ _ _ _ _ _ hX hI hT)
  · have hC9 : C % 9 < 9 := Nat.mod_lt _ (by decide)
    have ho := hX.1.2
    refine ev_if_le_f (tgt := 157) dL_drawn_138 (by decide) (fun q => by have := (pk_le' (a := C % 9) (b := 0) (by omega) (by decide)).mp q; omega) ?_
    refine ev_aload_n dL_drawn_141 rfl ?_
    refine ev_iconst dL_drawn_142 ic1 ?_
    refine ev_iload_n dL_drawn_143 rfl ?_
    refine ev_bipush (v := nI 9) dL_drawn_144 (by decide) ?_
    refine ev_irem dL_drawn_146 (by decide) ?_
    refine ev_top (pk_rem (by omega) (by decide) (by decide)) ?_
    refine ev_iadd dL_drawn_147 ?_
    refine ev_top (nI_add _ _) ?_
    refine ev_q kL_169 (as := [.ref 0, .int (nI (1 + C % 9))]) (rest := []) (hL_scale hX (nI (1 + C % 9))) dL_drawn_148 rfl (by decide) (by omega) rfl (fun w2 hX hT2 => ?_)
    rw [sp_scale (by omega) (by omega)] at hX ⊢
    replace hT := hT2.trans hT
    have hg : grC (aS A) (.inr (.inr (.inl (1 + C % 9)))) = 0 := by
      show (if sM (aS A) 0 = nI (1 + C % 9) then 1 else 0) = 0
      rw [if_neg (fun q => by rw [h1] at q; have := (nI_eq (by decide) (by omega)).mp q; omega)]
    rw [ch_ye hg] at hX ⊢
    refine ev_top (y := nI 1) h1 ?_
    refine ev_iconst dL_drawn_151 ic1 ?_
    refine ev_icmp_eq_t (tgt := 157) dL_drawn_152 (by decide) rfl ?_
    exact ev_bu _ (by omega) (at157 w2 _ _ _ _ _ _ _ hX ⟨hI.1, cn_do ho hI.2.1 (by show 1 + C % 9 < 10; omega) (decide_eq_true (by omega)) hg, dz_mi hI.2.2⟩ hT)
