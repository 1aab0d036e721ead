/-! changes carried out on the chart at hand -/
theorem cm_cells {S : ST} {w : WS} (h : cm_ S w) : (∀ c, c < 64 → w.1 2 c = sO S c) ∧ (∀ k, k < 4 → w.1 3 k = sC S k ∧ w.1 4 k = sW S k ∧ w.1 5 k = sL S k) ∧ w.1 1 10 = nI (nR S) ∧ (∀ i, i < nR S → w.1 7 i = nI (rN S i) ∧ w.1 8 i = nI (rT S i) ∧ ∀ p, p ≤ rN S i → w.1 6 (13 * i + p) = nI (rP S i p)) ∧ w.1 1 11 = nI (nD S) ∧ (∀ i, i < nD S → w.1 9 i = nI (dC S i) ∧ w.1 10 i = nI (dP S i) ∧ w.1 11 i = nI (dQ S i)) ∧ w.1 1 12 = sM S 0 ∧ w.1 1 13 = sM S 1 ∧ w.1 1 14 = sM S 2 ∧ w.1 1 15 = sM S 3 ∧ w.1 1 16 = sM S 4 := h.1
def sRfo (S : ST) : Option Nat → ST
  | none => S
  | some i => sRf S i
theorem sGv_eq (S : ST) (c : Nat) (v : Int32) : sGv S c v = sRfo (pO S (upd (sO S) c v)) (dOn S c) := by
  unfold sGv
  cases dOn S c <;> rfl
theorem ch_ad {S : ST} {w : WS} (h : chA S w 1) (c p a : Nat) {f3 f9 f10 f11 f1 : Nat → Int32} (h3 : f3 = upd (w.1 3) a (sC S a - nI p)) (h9 : f9 = upd (w.1 9) (nD S) (nI c)) (h10 : f10 = upd (w.1 10) (nD S) (nI p)) (h11 : f11 = upd (w.1 11) (nD S) (nI a)) (h1 : f1 = upd (w.1 1) 11 (nI (nD S + 1))) : chA (sAD S c p a) (cs_ (cs_ (cs_ (cs_ (cs_ w 3 f3) 9 f9) 10 f10) 11 f11) 1 f1) 1 := by
  subst h3 h9 h10 h11 h1
  obtain ⟨g1, g2, g3, g4, g5, g6, g7⟩ := h
  refine ⟨g1, fun k hk => ⟨?_, (g2 k hk).2⟩, g3, g4, rfl, fun j hj => ?_, g7⟩
  · show upd (w.1 3) a (sC S a - nI p) k = upd (sC S) a (sC S a - nI p) k
    unfold upd
    split
    · rfl
    · exact (g2 k hk).1
  · have hj : j < nD S + 1 := hj
    show upd (w.1 9) (nD S) (nI c) j = nI (va_up (dC S) (nD S) c j) ∧ upd (w.1 10) (nD S) (nI p) j = nI (va_up (dP S) (nD S) p j) ∧ upd (w.1 11) (nD S) (nI a) j = nI (va_up (dQ S) (nD S) a j)
    unfold upd va_up
    by_cases e : j = nD S
    · simp [e]
    · simp only [if_neg e]
      exact g6 j (by omega)
/-- the places of a new river written up to step t -/
def plw (w : WS) (n : Nat) (pl : Nat → Nat) (t : Nat) : Nat → Int32 := fun j => if 13 * n ≤ j ∧ j ≤ 13 * n + t then nI (pl (j - 13 * n)) else w.1 6 j
theorem plw_0 (w : WS) (n : Nat) (pl : Nat → Nat) : upd (w.1 6) (13 * n) (nI (pl 0)) = plw w n pl 0 := by
  funext j
  unfold upd plw
  by_cases e : j = 13 * n
  · subst e; simp
  · rw [if_neg e, if_neg (by omega)]
theorem plw_s (w : WS) (n : Nat) (pl : Nat → Nat) (t : Nat) : upd (plw w n pl t) (13 * n + t + 1) (nI (pl (t + 1))) = plw w n pl (t + 1) := by
  funext j
  unfold upd plw
  by_cases e : j = 13 * n + t + 1
  · rw [if_pos e, if_pos (by omega)]
    congr 2
    omega
  · rw [if_neg e]
    by_cases e2 : 13 * n ≤ j ∧ j ≤ 13 * n + t
    · rw [if_pos e2, if_pos (by omega)]
    · rw [if_neg e2, if_neg (by omega)]
theorem ch_ar {S : ST} {w : WS} (h : chA S w 1) (pl : Nat → Nat) (l t : Nat) (hok : okS S) (hl : l ≤ 12) {f7 f8 f1 : Nat → Int32} (h7 : f7 = upd (w.1 7) (nR S) (nI l)) (h8 : f8 = upd (w.1 8) (nR S) (nI t)) (h1 : f1 = upd (w.1 1) 10 (nI (nR S + 1))) : chA (sAR S pl l t) (cs_ (cs_ (cs_ (cs_ w 6 (plw w (nR S) pl l)) 7 f7) 8 f8) 1 f1) 1 := by
  subst h7 h8 h1
  obtain ⟨g1, g2, g3, g4, g5, g6, g7⟩ := h
  refine ⟨g1, g2, rfl, fun j hj => ?_, g5, g6, g7⟩
  have hj : j < nR S + 1 := hj
  show upd (w.1 7) (nR S) (nI l) j = nI (va_up (rN S) (nR S) l j) ∧ upd (w.1 8) (nR S) (nI t) j = nI (va_up (rT S) (nR S) t j) ∧ ∀ p, p ≤ va_up (rN S) (nR S) l j → plw w (nR S) pl l (13 * j + p) = nI (va_up (rP S) (nR S) pl j p)
  unfold upd va_up
  by_cases e : j = nR S
  · subst e
    simp only [if_true, true_and]
    intro p hp
    unfold plw
    rw [if_pos (by omega)]
    congr 2
    omega
  · simp only [if_neg e]
    have hv := (hok.2.1.2 j (by omega)).2.2.1
    refine ⟨(g4 j (by omega)).1, (g4 j (by omega)).2.1, fun p hp => ?_⟩
    unfold plw
    rw [if_neg (by omega)]
    exact (g4 j (by omega)).2.2 p hp
/-- the rivers' rows moved up from place i to place t -/
def shP (f : Nat → Int32) (i t : Nat) : Nat → Int32 := fun j => if 13 * i ≤ j ∧ j < 13 * t then f (j + 13) else f j
theorem shP_0 (f : Nat → Int32) (i : Nat) : shP f i i = f := by
  funext j
  unfold shP
  rw [if_neg (by omega)]
theorem shP_step (f : Nat → Int32) {i t : Nat} (h : i ≤ t) : va_cpy (shP f i t) (shP f i t) ((t + 1) * 13) (t * 13) 13 = shP f i (t + 1) := by
  funext j
  unfold va_cpy shP
  by_cases e : t * 13 ≤ j ∧ j < t * 13 + 13
  · rw [if_pos e, if_neg (by omega), if_pos (by omega)]
    congr 1
    omega
  · rw [if_neg e]
    by_cases e2 : 13 * i ≤ j ∧ j < 13 * t
    · rw [if_pos e2, if_pos (by omega)]
    · rw [if_neg e2, if_neg (by omega)]
def sf4 (w : WS) (i t : Nat) : WS := cs_ (cs_ (cs_ w 7 (shf (w.1 7) i t)) 8 (shf (w.1 8) i t)) 6 (shP (w.1 6) i t)
theorem sf4_0 (w : WS) (i : Nat) : sf4 w i i = w := by
  apply ws_eq
  · intro k
    simp only [sf4, cs_, shf_0, shP_0]
    by_cases h1 : k = 6
    · simp [h1]
    · by_cases h2 : k = 8
      · simp [h2]
      · by_cases h3 : k = 7
        · simp [h3]
        · simp [h1, h2, h3]
  · rfl
theorem sf4_step {w : WS} {i t : Nat} (h : i ≤ t) {A B : Int32} (hA : A = w.1 7 (t + 1)) (hB : B = w.1 8 (t + 1)) {f g k : Nat → Int32} (hf : f = upd (shf (w.1 7) i t) t A) (hg : g = upd (shf (w.1 8) i t) t B) (hk : k = shP (w.1 6) i (t + 1)) : cs_ (cs_ (cs_ (sf4 w i t) 7 f) 8 g) 6 k = sf4 w i (t + 1) := by
  subst hA hB hf hg hk
  apply ws_eq
  · intro j
    simp only [sf4, cs_, shf_step _ h]
    by_cases h1 : j = 6
    · simp [h1]
    · by_cases h2 : j = 8
      · simp [h2]
      · by_cases h3 : j = 7
        · simp [h3]
        · simp [h1, h2, h3]
  · rfl
theorem sf4_7 (w : WS) (i t : Nat) : (sf4 w i t).1 7 = shf (w.1 7) i t := by simp [sf4, cs_]
theorem sf4_8 (w : WS) (i t : Nat) : (sf4 w i t).1 8 = shf (w.1 8) i t := by simp [sf4, cs_]
theorem sf4_6 (w : WS) (i t : Nat) : (sf4 w i t).1 6 = shP (w.1 6) i t := by simp [sf4, cs_]
theorem sf4_1 (w : WS) (i t : Nat) : (sf4 w i t).1 1 = w.1 1 := by simp [sf4, cs_]
def wRr (w : WS) (i n : Nat) : WS := cs_ (sf4 w i (n - 1)) 1 (upd (w.1 1) 10 (nI (n - 1)))
theorem fr1_rr {w : WS} {i n : Nat} : fr1 w (wRr w i n) := fr1_cs (fr1_cs (fr1_cs (fr1_cs fr1_rf (by decide) _) (by decide) _) (by decide) _) (by decide) _
theorem ch_rr {S : ST} {w : WS} (h : chA S w 1) (hok : okS S) {i : Nat} (hi : i < nR S) : chA (sRR S i) (wRr w i (nR S)) 1 := by
  obtain ⟨h1, h2, h3, h4, h5, h6, h7⟩ := h
  have e7 : (wRr w i (nR S)).1 7 = shf (w.1 7) i (nR S - 1) := by simp [wRr, cs_, sf4_7]
  have e8 : (wRr w i (nR S)).1 8 = shf (w.1 8) i (nR S - 1) := by simp [wRr, cs_, sf4_8]
  have e6 : (wRr w i (nR S)).1 6 = shP (w.1 6) i (nR S - 1) := by simp [wRr, cs_, sf4_6]
  have e1 : (wRr w i (nR S)).1 1 = upd (w.1 1) 10 (nI (nR S - 1)) := by simp [wRr, cs_]
  have eo : ∀ k, k ≠ 1 → k ≠ 6 → k ≠ 7 → k ≠ 8 → (wRr w i (nR S)).1 k = w.1 k := fun k a b c d => by simp [wRr, cs_, sf4, a, b, c, d]
  refine ⟨fun c hc => by rw [eo _ (by decide) (by decide) (by decide) (by decide)]; exact h1 c hc, fun k hk => by rw [eo _ (by decide) (by decide) (by decide) (by decide), eo _ (by decide) (by decide) (by decide) (by decide), eo _ (by decide) (by decide) (by decide) (by decide)]; exact h2 k hk, ?_, fun j hj => ?_, ?_, fun j hj => by rw [eo _ (by decide) (by decide) (by decide) (by decide), eo _ (by decide) (by decide) (by decide) (by decide), eo _ (by decide) (by decide) (by decide) (by decide)]; exact h6 j hj, ?_⟩
  · rw [e1]; rfl
  · have hj : j < nR S - 1 := hj
    show (wRr w i (nR S)).1 7 j = nI (rmv (rN S) i j) ∧ (wRr w i (nR S)).1 8 j = nI (rmv (rT S) i j) ∧ ∀ p, p ≤ rmv (rN S) i j → (wRr w i (nR S)).1 6 (13 * j + p) = nI (rmv (rP S) i j p)
    rw [e7, e8, e6, shf_rmv _ hj, shf_rmv _ hj]
    unfold rmv
    by_cases e : j < i
    · simp only [if_pos e]
      refine ⟨(h4 j (by omega)).1, (h4 j (by omega)).2.1, fun p hp => ?_⟩
      have hv := (hok.2.1.2 j (by omega)).2.2.1
      unfold shP
      rw [if_neg (by omega)]
      exact (h4 j (by omega)).2.2 p hp
    · simp only [if_neg e]
      refine ⟨(h4 (j + 1) (by omega)).1, (h4 (j + 1) (by omega)).2.1, fun p hp => ?_⟩
      have hv := (hok.2.1.2 (j + 1) (by omega)).2.2.1
      unfold shP
      rw [if_pos (by omega), show 13 * j + p + 13 = 13 * (j + 1) + p by omega]
      exact (h4 (j + 1) (by omega)).2.2 p hp
  · rw [e1]; exact h5
  · rw [e1]; exact h7
/-- a command as it is asked for: its kind, cell, number; its steps -/
def cd_ (w : WS) (k c n : Int32) : Prop := w.1 102 0 = k ∧ w.1 102 1 = c ∧ w.1 102 2 = n
def cs2_ (w : WS) (n : Nat) (ds : Nat → Nat) : Prop := n ≤ 12 ∧ w.1 102 3 = nI n ∧ ∀ k, k < n → w.1 103 k = nI (ds k) ∧ ds k < 4
set_option maxRecDepth 4000 in
theorem qX1_setMiles {G : GX} {w : WS} {S : ST} (hS : cm_ S w) {k : Nat} : Big G 1 0 mX1_setMiles [.ref 1, .int (nI k)] w (.inl (some (.int (sM S 0)))) (cs_ w 1 (upd (w.1 1) 12 (nI k))) := by
  refine big_of (by decide +kernel) (Nat.le_of_ble_eq_true rfl) ?_
  have hS0 := hS
  obtain ⟨hO, hC, hR, hRv, hD, hDv, hM0, hM1, hM2, hM3, hM4⟩ := cm_cells hS
  obtain ⟨hch, hk1, hk2, hk3, hk4⟩ := hS
  show Ev G 1 0 mX1_setMiles 0 [some (.ref 1), some (.int (nI k)), none] [] w _
  refine ev_aload_n dX1_setMiles_0 rfl ?_
  refine ev_getI fX1_42 dX1_setMiles_1 (by decide) sh1 rfl ?_
  rw [hM0]
  refine ev_ist2 dX1_setMiles_4 (by decide) rfl ?_
  refine ev_aload_n dX1_setMiles_5 rfl ?_
  refine ev_iload_n dX1_setMiles_6 rfl ?_
  refine ev_put fX1_42 dX1_setMiles_7 rfl rfl (by decide) sh1 rfl ?_
  refine ev_iload_n dX1_setMiles_10 rfl ?_
  exact ev_iret dX1_setMiles_11 rfl rfl rfl rfl
set_option maxRecDepth 4000 in
theorem qX1_removeDragon {G : GX} {w : WS} {S : ST} (hS : cm_ S w) {i : Nat} (hi : i < nD S) : Big G 1 0 mX1_removeDragon [.ref 1, .int (nI i)] w (.inl none) (wRm w i (nD S)) := by
  refine big_of (by decide +kernel) (Nat.le_of_ble_eq_true rfl) ?_
  have hS0 := hS
  obtain ⟨hO, hC, hR, hRv, hD, hDv, hM0, hM1, hM2, hM3, hM4⟩ := cm_cells hS
  obtain ⟨hch, hk1, hk2, hk3, hk4⟩ := hS
  show Ev G 1 0 mX1_removeDragon 0 [some (.ref 1), some (.int (nI i)), none] [] w _
  refine ev_iload_n dX1_removeDragon_0 rfl ?_
  refine ev_ist2 dX1_removeDragon_1 (by decide) rfl ?_
  have h5 := hk3.1
  have lp : ∀ (n9 t : Nat) , t + n9 = nD S - 1 → i ≤ t → Ev G 1 0 mX1_removeDragon 2 [some (.ref 1), some (.int (nI i)), some (.int (nI t))] [] (sf3 w i t) (zu_ G (.inl none) (wRm w i (nD S))) := by
    intro n9
    induction n9 with
    | zero =>
      intro t  hi9 hit
      refine ev_iload_n dX1_removeDragon_2 rfl ?_
      refine ev_if_lt_f (tgt := 71) dX1_removeDragon_3 (by decide) (nI_pos (by omega)) ?_
      refine ev_iload_n dX1_removeDragon_6 rfl ?_
      refine ev_iconst dX1_removeDragon_7 ic1 ?_
      refine ev_iadd dX1_removeDragon_8 ?_
      rw [nI_add]
      refine ev_aload_n dX1_removeDragon_9 rfl ?_
      refine ev_getI fX1_61 dX1_removeDragon_10 (by decide) sh1 rfl ?_
      rw [sf3_1, hD]
      refine ev_icmp_ge_t (tgt := 71) dX1_removeDragon_13 (by decide) (nI_le (by omega) (by omega)) ?_
      refine ev_aload_n dX1_removeDragon_71 rfl ?_
      refine ev_dup dX1_removeDragon_72 rfl ?_
      refine ev_getI fX1_61 dX1_removeDragon_73 (by decide) sh1 rfl ?_
      rw [sf3_1, hD]
      refine ev_iconst dX1_removeDragon_76 ic1 ?_
      refine ev_isub dX1_removeDragon_77 ?_
      rw [pk_sub (by omega)]
      refine ev_put fX1_61 dX1_removeDragon_78 rfl rfl (by decide) sh1 rfl ?_
      exact ev_vret dX1_removeDragon_81 rfl rfl (by rw [show t = nD S - 1 by omega]; unfold wRm; rw [sf3_1])
    | succ n9 ih =>
      intro t  hi9 hit
      refine ev_iload_n dX1_removeDragon_2 rfl ?_
      refine ev_if_lt_f (tgt := 71) dX1_removeDragon_3 (by decide) (nI_pos (by omega)) ?_
      refine ev_iload_n dX1_removeDragon_6 rfl ?_
      refine ev_iconst dX1_removeDragon_7 ic1 ?_
      refine ev_iadd dX1_removeDragon_8 ?_
      rw [nI_add]
      refine ev_aload_n dX1_removeDragon_9 rfl ?_
      refine ev_getI fX1_61 dX1_removeDragon_10 (by decide) sh1 rfl ?_
      rw [sf3_1, hD]
      refine ev_icmp_ge_f (tgt := 71) dX1_removeDragon_13 (by decide) (nI_ge (by omega) (by omega)) ?_
      refine ev_iload_n dX1_removeDragon_16 rfl ?_
      refine ev_iconst dX1_removeDragon_17 ic1 ?_
      refine ev_iadd dX1_removeDragon_18 ?_
      rw [nI_add]
      refine ev_iconst dX1_removeDragon_19 ic5 ?_
      refine ev_icmp_ge_f (tgt := 71) dX1_removeDragon_20 (by decide) (nI_ge (by omega) (by decide)) ?_
      refine ev_aload_n dX1_removeDragon_23 rfl ?_
      refine ev_getR fX1_33 dX1_removeDragon_24 (by decide) sh1 rfl ?_
      refine ev_iload_n dX1_removeDragon_27 rfl ?_
      refine ev_aload_n dX1_removeDragon_28 rfl ?_
      refine ev_getR fX1_33 dX1_removeDragon_29 (by decide) sh1 rfl ?_
      refine ev_iload_n dX1_removeDragon_32 rfl ?_
      refine ev_iconst dX1_removeDragon_33 ic1 ?_
      refine ev_iadd dX1_removeDragon_34 ?_
      rw [nI_add]
      refine ev_iaload dX1_removeDragon_35 rfl (by omega) (by decide) sh9 ?_
      refine ev_iastore dX1_removeDragon_36 rfl (by omega) rfl (by decide) sh9 ?_
      refine ev_aload_n dX1_removeDragon_37 rfl ?_
      refine ev_getR fX1_36 dX1_removeDragon_38 (by decide) sh1 rfl ?_
      refine ev_iload_n dX1_removeDragon_41 rfl ?_
      refine ev_aload_n dX1_removeDragon_42 rfl ?_
      refine ev_getR fX1_36 dX1_removeDragon_43 (by decide) sh1 rfl ?_
      refine ev_iload_n dX1_removeDragon_46 rfl ?_
      refine ev_iconst dX1_removeDragon_47 ic1 ?_
      refine ev_iadd dX1_removeDragon_48 ?_
      rw [nI_add]
      refine ev_iaload dX1_removeDragon_49 rfl (by omega) (by decide) sh10 ?_
      refine ev_iastore dX1_removeDragon_50 rfl (by omega) rfl (by decide) sh10 ?_
      refine ev_aload_n dX1_removeDragon_51 rfl ?_
      refine ev_getR fX1_39 dX1_removeDragon_52 (by decide) sh1 rfl ?_
      refine ev_iload_n dX1_removeDragon_55 rfl ?_
      refine ev_aload_n dX1_removeDragon_56 rfl ?_
      refine ev_getR fX1_39 dX1_removeDragon_57 (by decide) sh1 rfl ?_
      refine ev_iload_n dX1_removeDragon_60 rfl ?_
      refine ev_iconst dX1_removeDragon_61 ic1 ?_
      refine ev_iadd dX1_removeDragon_62 ?_
      rw [nI_add]
      refine ev_iaload dX1_removeDragon_63 rfl (by omega) (by decide) sh11 ?_
      refine ev_iastore dX1_removeDragon_64 rfl (by omega) rfl (by decide) sh11 ?_
      refine ev_iinc2 dX1_removeDragon_65 (nI_inc _) (by decide) rfl ?_
      refine ev_goto (tgt := 2) dX1_removeDragon_68 (by decide) ?_
      refine ev_w (sf3_step (A := w.1 9 (t + 1)) (B := w.1 10 (t + 1)) (C := w.1 11 (t + 1)) hit rfl rfl rfl (by rw [sf3_9, shf_at]) (by rw [cs_ne _ _ (by decide), sf3_10, shf_at]) (by rw [cs_ne _ _ (by decide), cs_ne _ _ (by decide), sf3_11, shf_at])) ?_
      exact ih (t + 1) (by omega) (by omega)
  have q := lp (nD S - 1 - i) i (by omega) (Nat.le_refl _)
  rw [sf3_0] at q
  exact q
set_option maxRecDepth 4000 in
theorem qX1_refund_n {G : GX} {w : WS} {S : ST} (hS : cm_ S w) : Big G 2 0 mX1_refund [.ref 1, .int (-1)] w (.inl none) w := by
  refine big_of (by decide +kernel) (Nat.le_of_ble_eq_true rfl) ?_
  have hS0 := hS
  obtain ⟨hO, hC, hR, hRv, hD, hDv, hM0, hM1, hM2, hM3, hM4⟩ := cm_cells hS
  obtain ⟨hch, hk1, hk2, hk3, hk4⟩ := hS
  show Ev G 2 0 mX1_refund 0 [some (.ref 1), some (.int (-1)), none] [] w _
  refine ev_aload_n dX1_refund_0 rfl ?_
  refine ev_iload_n dX1_refund_1 rfl ?_
  refine ev_callV kX1_137 co1 (qX1_hasDragon_n hS0 out_m1) dX1_refund_2 rfl (by decide) (by decide) rfl ?_
  refine ev_if_ne_f (tgt := 9) dX1_refund_5 (by decide) rfl ?_
  exact ev_vret dX1_refund_8 rfl rfl rfl
set_option maxRecDepth 4000 in
theorem qX1_refund_y {G : GX} {w : WS} {S : ST} (hS : cm_ S w) {i : Nat} (hi : i < nD S) : ∃ w2, Big G 2 0 mX1_refund [.ref 1, .int (nI i)] w (.inl none) w2 ∧ chA (sRf S i) w2 1 ∧ fr1 w w2 := by
  have hS0 := hS
  obtain ⟨hO, hC, hR, hRv, hD, hDv, hM0, hM1, hM2, hM3, hM4⟩ := cm_cells hS
  obtain ⟨hch, hk1, hk2, hk3, hk4⟩ := hS
  have h5 := hk3.1
  have hq4 := (hk3.2.1 i hi).2.2.2
  have hc1 := ch_coin hch (dQ S i) (sC S (dQ S i) + nI (dP S i))
  have hc2 := ch_misc hc1 (j := 2) (by decide) (sM S 2 + nI 1)
  obtain ⟨W2, hW2⟩ : ∃ W2, W2 = cs_ (cs_ w 3 (upd (w.1 3) (dQ S i) (sC S (dQ S i) + nI (dP S i)))) 1 (upd ((cs_ w 3 (upd (w.1 3) (dQ S i) (sC S (dQ S i) + nI (dP S i)))).1 1) (12 + 2) (sM S 2 + nI 1)) := ⟨_, rfl⟩
  rw [← hW2] at hc2
  refine ⟨wRm W2 i (nD S), ?_, ?_⟩
  · refine big_of (by decide +kernel) (Nat.le_of_ble_eq_true rfl) ?_
    show Ev G 2 0 mX1_refund 0 [some (.ref 1), some (.int (nI i)), none] [] w _
    refine ev_aload_n dX1_refund_0 rfl ?_
    refine ev_iload_n dX1_refund_1 rfl ?_
    refine ev_callV kX1_137 co1 (qX1_hasDragon_y hS0 hi) dX1_refund_2 rfl (by decide) (by decide) rfl ?_
    refine ev_if_ne_t (tgt := 9) dX1_refund_5 (by decide) (by decide) ?_
    refine ev_aload_n dX1_refund_9 rfl ?_
    refine ev_getR fX1_39 dX1_refund_10 (by decide) sh1 rfl ?_
    refine ev_iload_n dX1_refund_13 rfl ?_
    refine ev_iaload dX1_refund_14 rfl (by omega) (by decide) sh11 ?_
    rw [(hDv i hi).2.2]
    refine ev_ist2 dX1_refund_15 (by decide) rfl ?_
    refine ev_iload_n dX1_refund_16 rfl ?_
    refine ev_callN kX1_80 (qX11_isRealm_y hq4) dX1_refund_17 rfl (by decide) (by decide) rfl ?_
    refine ev_if_eq_f (tgt := 38) dX1_refund_20 (by decide) (by decide) ?_
    refine ev_aload_n dX1_refund_23 rfl ?_
    refine ev_getR fX1_15 dX1_refund_24 (by decide) sh1 rfl ?_
    refine ev_iload_n dX1_refund_27 rfl ?_
    refine ev_dup2 dX1_refund_28 rfl rfl ?_
    refine ev_iaload dX1_refund_29 rfl (by omega) (by decide) sh3 ?_
    rw [(hC _ hq4).1]
    refine ev_aload_n dX1_refund_30 rfl ?_
    refine ev_getR fX1_36 dX1_refund_31 (by decide) sh1 rfl ?_
    refine ev_iload_n dX1_refund_34 rfl ?_
    refine ev_iaload dX1_refund_35 rfl (by omega) (by decide) sh10 ?_
    rw [(hDv i hi).2.1]
    refine ev_iadd dX1_refund_36 ?_
    refine ev_iastore dX1_refund_37 rfl (by omega) rfl (by decide) sh3 ?_
    refine ev_aload_n dX1_refund_38 rfl ?_
    refine ev_dup dX1_refund_39 rfl ?_
    refine ev_getI fX1_67 dX1_refund_40 (by decide) sh1 rfl ?_
    rw [cs_ne _ _ (by decide), hM2]
    refine ev_iconst dX1_refund_43 ic1 ?_
    refine ev_iadd dX1_refund_44 ?_
    refine ev_put fX1_67 dX1_refund_45 rfl rfl (by decide) sh1 rfl ?_
    refine ev_w hW2.symm ?_
    refine ev_aload_n dX1_refund_48 rfl ?_
    refine ev_iload_n dX1_refund_49 rfl ?_
    refine ev_callV kX1_140 co1 (qX1_removeDragon (S := pM (pC S (upd (sC S) (dQ S i) (sC S (dQ S i) + nI (dP S i)))) (upd (sM S) 2 (sM S 2 + nI 1))) (w := W2) ⟨hc2, ok_pM (ok_pC hS0.2 _) (by decide) _⟩ (i := i) hi) dX1_refund_50 rfl (by decide) (by decide) rfl ?_
    exact ev_vret dX1_refund_53 rfl rfl rfl
  · exact ⟨ch_rm hc2 (i := i) hi, by rw [hW2]; exact fr1_tr (fr1_cs (fr1_cs fr1_rf (by decide) _) (by decide) _) fr1_rm⟩
theorem qX1_refund {G : GX} {w : WS} {S : ST} (hS : cm_ S w) (c : Nat) : ∃ w2, Big G 2 0 mX1_refund [.ref 1, .int (oI (dOn S c))] w (.inl none) w2 ∧ chA (sRfo S (dOn S c)) w2 1 ∧ fr1 w w2 := by
  cases h : dOn S c with
  | none => exact ⟨w, qX1_refund_n hS, hS.1, fr1_rf⟩
  | some i => exact qX1_refund_y hS (dOn_lt h).1
set_option maxRecDepth 4000 in
theorem qX1_give {G : GX} {w : WS} {S : ST} (hS : cm_ S w) {c : Nat} (hc : c < 64) {v : Int32} (hv : r5 v) : ∃ w2, Big G 3 0 mX1_give [.ref 1, .int (nI c), .int v] w (.inl (some (.int (sO S c)))) w2 ∧ chA (sGv S c v) w2 1 ∧ fr1 w w2 := by
  have hS0 := hS
  obtain ⟨hO, hC, hR, hRv, hD, hDv, hM0, hM1, hM2, hM3, hM4⟩ := cm_cells hS
  obtain ⟨hch, hk1, hk2, hk3, hk4⟩ := hS
  have hS1 : cm_ (pO S (upd (sO S) c v)) (cs_ w 2 (upd (w.1 2) c v)) := ⟨ch_own hch c v, ok_pO hS0.2 hv⟩
  obtain ⟨w2, hB, hA2, hF⟩ := qX1_refund (G := G) hS1 c
  refine ⟨w2, ?_, ?_⟩
  · refine big_of (by decide +kernel) (Nat.le_of_ble_eq_true rfl) ?_
    show Ev G 3 0 mX1_give 0 [some (.ref 1), some (.int (nI c)), some (.int v), none] [] w _
    refine ev_iload_n dX1_give_0 rfl ?_
    refine ev_callN kX1_76 (qX11_isCell_y hc) dX1_give_1 rfl (by decide) (by decide) rfl ?_
    refine ev_if_ne_t (tgt := 9) dX1_give_4 (by decide) (by decide) ?_
    refine ev_aload_n dX1_give_9 rfl ?_
    refine ev_getR fX1_9 dX1_give_10 (by decide) sh1 rfl ?_
    refine ev_iload_n dX1_give_13 rfl ?_
    refine ev_iaload dX1_give_14 rfl (by omega) (by decide) sh2 ?_
    rw [hO c hc]
    refine ev_ist3 dX1_give_15 (by decide) rfl ?_
    refine ev_aload_n dX1_give_16 rfl ?_
    refine ev_getR fX1_9 dX1_give_17 (by decide) sh1 rfl ?_
    refine ev_iload_n dX1_give_20 rfl ?_
    refine ev_iload_n dX1_give_21 rfl ?_
    refine ev_iastore dX1_give_22 rfl (by omega) rfl (by decide) sh2 ?_
    refine ev_aload_n dX1_give_23 rfl ?_
    refine ev_aload_n dX1_give_24 rfl ?_
    refine ev_iload_n dX1_give_25 rfl ?_
    refine ev_callV kX1_130 co1 (qX1_dragonOn hS1 hc) dX1_give_26 rfl (by decide) (by decide) rfl ?_
    refine ev_callV kX1_133 co1 hB dX1_give_29 rfl (by decide) (by decide) rfl ?_
    refine ev_iload_n dX1_give_32 rfl ?_
    exact ev_iret dX1_give_33 rfl rfl rfl rfl
  · exact ⟨by rw [sGv_eq]; exact hA2, fr1_tr (fr1_cs fr1_rf (by decide) _) hF⟩
set_option maxRecDepth 4000 in
theorem qX1_conquer {G : GX} {w : WS} {S : ST} (hS : cm_ S w) {c a r : Nat} (hc : c < 64) (ha : a < 4) (hr : r < 4) (ho : sO S c = nI a) : ∃ w2, Big G 4 0 mX1_conquer [.ref 1, .int (nI c), .int (nI r)] w (.inl (some (.int (nI a)))) w2 ∧ chA (sSh S c a r) w2 1 ∧ fr1 w w2 := by
  have hS0 := hS
  obtain ⟨hO, hC, hR, hRv, hD, hDv, hM0, hM1, hM2, hM3, hM4⟩ := cm_cells hS
  obtain ⟨hch, hk1, hk2, hk3, hk4⟩ := hS
  obtain ⟨w1, hB, hA1, hF⟩ := qX1_give (G := G) hS0 hc (v := nI r) (Or.inr ⟨r, hr, rfl⟩)
  obtain ⟨-, hC1, -, -, -, -, -, hN1, -⟩ := cm_cells ⟨hA1, ok_gv hS0.2 (Or.inr ⟨r, hr, rfl⟩)⟩
  refine ⟨_, ?_, ch_misc (ch_lost (ch_won hA1 r (sW (sGv S c (nI r)) r + nI 1)) a (sL (sGv S c (nI r)) a + nI 1)) (j := 1) (by decide) (sM (sGv S c (nI r)) 1 + nI 1), fr1_tr hF (fr1_cs (fr1_cs (fr1_cs fr1_rf (by decide) _) (by decide) _) (by decide) _)⟩
  refine big_of (by decide +kernel) (Nat.le_of_ble_eq_true rfl) ?_
  show Ev G 4 0 mX1_conquer 0 [some (.ref 1), some (.int (nI c)), some (.int (nI r)), none] [] w _
  refine ev_aload_n dX1_conquer_0 rfl ?_
  refine ev_iload_n dX1_conquer_1 rfl ?_
  refine ev_iload_n dX1_conquer_2 rfl ?_
  refine ev_callV kX1_108 co1 hB dX1_conquer_3 rfl (by decide) (by decide) rfl ?_
  rw [ho]
  refine ev_ist3 dX1_conquer_6 (by decide) rfl ?_
  refine ev_iload_n dX1_conquer_7 rfl ?_
  refine ev_callN kX1_80 (qX11_isRealm_y ha) dX1_conquer_8 rfl (by decide) (by decide) rfl ?_
  refine ev_if_eq_f (tgt := 41) dX1_conquer_11 (by decide) (by decide) ?_
  refine ev_iload_n dX1_conquer_14 rfl ?_
  refine ev_callN kX1_80 (qX11_isRealm_y hr) dX1_conquer_15 rfl (by decide) (by decide) rfl ?_
  refine ev_if_eq_f (tgt := 41) dX1_conquer_18 (by decide) (by decide) ?_
  refine ev_aload_n dX1_conquer_21 rfl ?_
  refine ev_getR fX1_18 dX1_conquer_22 (by decide) sh1 rfl ?_
  refine ev_iload_n dX1_conquer_25 rfl ?_
  refine ev_dup2 dX1_conquer_26 rfl rfl ?_
  refine ev_iaload dX1_conquer_27 rfl (by omega) (by decide) sh4 ?_
  rw [(hC1 r hr).2.1]
  refine ev_iconst dX1_conquer_28 ic1 ?_
  refine ev_iadd dX1_conquer_29 ?_
  refine ev_iastore dX1_conquer_30 rfl (by omega) rfl (by decide) sh4 ?_
  refine ev_aload_n dX1_conquer_31 rfl ?_
  refine ev_getR fX1_21 dX1_conquer_32 (by decide) sh1 rfl ?_
  refine ev_iload_n dX1_conquer_35 rfl ?_
  refine ev_dup2 dX1_conquer_36 rfl rfl ?_
  refine ev_iaload dX1_conquer_37 rfl (by omega) (by decide) sh5 ?_
  rw [cs_ne _ _ (by decide), (hC1 a ha).2.2]
  refine ev_iconst dX1_conquer_38 ic1 ?_
  refine ev_iadd dX1_conquer_39 ?_
  refine ev_iastore dX1_conquer_40 rfl (by omega) rfl (by decide) sh5 ?_
  refine ev_aload_n dX1_conquer_41 rfl ?_
  refine ev_dup dX1_conquer_42 rfl ?_
  refine ev_getI fX1_64 dX1_conquer_43 (by decide) sh1 rfl ?_
  rw [cs_ne _ _ (by decide), cs_ne _ _ (by decide), hN1]
  refine ev_iconst dX1_conquer_46 ic1 ?_
  refine ev_iadd dX1_conquer_47 ?_
  refine ev_put fX1_64 dX1_conquer_48 rfl rfl (by decide) sh1 rfl ?_
  refine ev_iload_n dX1_conquer_51 rfl ?_
  exact ev_iret dX1_conquer_52 rfl rfl rfl rfl
set_option maxRecDepth 4000 in
theorem qX1_chase {G : GX} {w : WS} {S : ST} (hS : cm_ S w) {i : Nat} (hi : i < nD S) : ∃ w2, Big G 2 0 mX1_chase [.ref 1, .int (nI i)] w (.inl (some (.int (nI (dP S i))))) w2 ∧ chA (sSc S i) w2 1 ∧ fr1 w w2 := by
  have hS0 := hS
  obtain ⟨hO, hC, hR, hRv, hD, hDv, hM0, hM1, hM2, hM3, hM4⟩ := cm_cells hS
  obtain ⟨hch, hk1, hk2, hk3, hk4⟩ := hS
  have h5 := hk3.1
  have hok2 := ok_pM (S := pM S (upd (sM S) 3 (sM S 3 + nI 1))) (ok_pM hS0.2 (j := 3) (by decide) (sM S 3 + nI 1)) (j := 4) (by decide) (sM S 4 + nI (dP S i))
  have hc1 := ch_misc hch (j := 3) (by decide) (sM S 3 + nI 1)
  have hc2 := ch_misc hc1 (j := 4) (by decide) (sM S 4 + nI (dP S i))
  obtain ⟨W2, hW2⟩ : ∃ W2, W2 = cs_ (cs_ w 1 (upd (w.1 1) (12 + 3) (sM S 3 + nI 1))) 1 (upd ((cs_ w 1 (upd (w.1 1) (12 + 3) (sM S 3 + nI 1))).1 1) (12 + 4) (sM S 4 + nI (dP S i))) := ⟨_, rfl⟩
  rw [← hW2] at hc2
  refine ⟨wRm W2 i (nD S), ?_, ?_⟩
  · refine big_of (by decide +kernel) (Nat.le_of_ble_eq_true rfl) ?_
    show Ev G 2 0 mX1_chase 0 [some (.ref 1), some (.int (nI i)), none] [] w _
    refine ev_aload_n dX1_chase_0 rfl ?_
    refine ev_iload_n dX1_chase_1 rfl ?_
    refine ev_callV kX1_137 co1 (qX1_hasDragon_y hS0 hi) dX1_chase_2 rfl (by decide) (by decide) rfl ?_
    refine ev_if_ne_t (tgt := 10) dX1_chase_5 (by decide) (by decide) ?_
    refine ev_aload_n dX1_chase_10 rfl ?_
    refine ev_getR fX1_36 dX1_chase_11 (by decide) sh1 rfl ?_
    refine ev_iload_n dX1_chase_14 rfl ?_
    refine ev_iaload dX1_chase_15 rfl (by omega) (by decide) sh10 ?_
    rw [(hDv i hi).2.1]
    refine ev_ist2 dX1_chase_16 (by decide) rfl ?_
    refine ev_aload_n dX1_chase_17 rfl ?_
    refine ev_dup dX1_chase_18 rfl ?_
    refine ev_getI fX1_70 dX1_chase_19 (by decide) sh1 rfl ?_
    rw [hM3]
    refine ev_iconst dX1_chase_22 ic1 ?_
    refine ev_iadd dX1_chase_23 ?_
    refine ev_put fX1_70 dX1_chase_24 rfl rfl (by decide) sh1 rfl ?_
    refine ev_aload_n dX1_chase_27 rfl ?_
    refine ev_dup dX1_chase_28 rfl ?_
    refine ev_getI fX1_73 dX1_chase_29 (by decide) sh1 rfl ?_
    rw [cs_same, show upd (w.1 1) 15 (sM S 3 + nI 1) 16 = sM S 4 from hM4]
    refine ev_iload_n dX1_chase_32 rfl ?_
    refine ev_iadd dX1_chase_33 ?_
    refine ev_put fX1_73 dX1_chase_34 rfl rfl (by decide) sh1 rfl ?_
    refine ev_w hW2.symm ?_
    refine ev_aload_n dX1_chase_37 rfl ?_
    refine ev_iload_n dX1_chase_38 rfl ?_
    refine ev_callV kX1_140 co1 (qX1_removeDragon (S := pM S (upd (upd (sM S) 3 (sM S 3 + nI 1)) 4 (sM S 4 + nI (dP S i)))) (w := W2) ⟨hc2, hok2⟩ (i := i) hi) dX1_chase_39 rfl (by decide) (by decide) rfl ?_
    refine ev_iload_n dX1_chase_42 rfl ?_
    exact ev_iret dX1_chase_43 rfl rfl rfl rfl
  · exact ⟨ch_rm hc2 (i := i) hi, by rw [hW2]; exact fr1_tr (fr1_cs (fr1_cs fr1_rf (by decide) _) (by decide) _) fr1_rm⟩
