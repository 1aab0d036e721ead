/-! the law's methods: wrong, texts, lines, sums -/
set_option maxRecDepth 8000 in
theorem gL_wrong {G : GX} {w : WS} {A : AS} (hX : aX A w) {m : Nat} (hm : m ≤ 9) : BigP G 21 20 mL_wrong [.ref 0, .int (nI m)] w (fun r w2 => r = some (.int (nI (awr (aS A) m))) ∧ aX A w2 ∧ w2.2 = w.2) := by
  refine bp_of (by decide +kernel) rfl (Nat.le_of_ble_eq_true rfl) ?_
  show Ev G 21 20 mL_wrong 0 [some (.ref 0), some (.int (nI m)), none, none] [] w _
  have ho := hX.1.2
  have hn4 := ho.2.1.1
  refine ev_iconst dL_wrong_0 ic0 ?_
  refine ev_ist2 dL_wrong_1 (by decide) rfl ?_
  refine ev_iconst dL_wrong_2 ic0 ?_
  refine ev_ist3 dL_wrong_3 (by decide) rfl ?_
  have lp : ∀ (n i : Nat) (w' : WS), i + n = nR (aS A) → aX A w' → w'.2 = w.2 → Ev G 21 (3 * n + 1) mL_wrong 4 [some (.ref 0), some (.int (nI m)), some (.int (nI (sm (wr (aS A) m) i))), some (.int (nI i))] [] w' (zP_ G (fun r w2 => r = some (.int (nI (awr (aS A) m))) ∧ aX A w2 ∧ w2.2 = w.2)) := by
    intro n
    induction n with
    | zero =>
      intro i w' hi hX hT
      refine ev_iload_n dL_wrong_4 rfl ?_
      refine ev_aload_n dL_wrong_5 rfl ?_
      refine ev_iconst dL_wrong_6 ic1 ?_
      refine ev_qc kL_255 co0 (as := [.int (nI 1)]) (rest := [.int (nI i)]) (fX11_account_y (G := G) hX (i := 1) (by decide)) dL_wrong_7 rfl (by decide) (by omega) rfl (fun w2 hX hT2 => ?_)
      rw [show acV A 1 = nI (nR (aS A)) from rfl]
      replace hT := hT2.trans hT
      refine ev_icmp_ge_t (tgt := 40) dL_wrong_10 (by decide) (Int32.not_lt.mp (nI_nlt (by omega) (by omega))) ?_
      refine ev_iload_n dL_wrong_40 rfl ?_
      exact ev_iretP dL_wrong_41 rfl rfl ⟨by rw [show i = nR (aS A) by omega]; rfl, hX, hT⟩
    | succ n ih =>
      intro i w' hi hX hT
      have hi2 : i < nR (aS A) := by omega
      have hv := ho.2.1.2 i hi2
      refine ev_iload_n dL_wrong_4 rfl ?_
      refine ev_aload_n dL_wrong_5 rfl ?_
      refine ev_iconst dL_wrong_6 ic1 ?_
      refine ev_qc kL_255 co0 (as := [.int (nI 1)]) (rest := [.int (nI i)]) (fX11_account_y (G := G) hX (i := 1) (by decide)) dL_wrong_7 rfl (by decide) (by omega) rfl (fun w2 hX hT2 => ?_)
      rw [show acV A 1 = nI (nR (aS A)) from rfl]
      replace hT := hT2.trans hT
      refine ev_icmp_ge_f (tgt := 40) dL_wrong_10 (by decide) (nI_ge hi2 (by omega)) ?_
      refine ev_iload_n dL_wrong_13 rfl ?_
      refine ev_aload_n dL_wrong_14 rfl ?_
      refine ev_iload_n dL_wrong_15 rfl ?_
      refine ev_iconst dL_wrong_16 ic3 ?_
      refine ev_q kL_276 (as := [.ref 0, .int (nI i), .int (nI 3)]) (rest := [.int (nI (sm (wr (aS A) m) i))]) (hL_riverOf hX ((nI i)) ((nI 3))) dL_wrong_17 rfl (by decide) (by omega) rfl (fun w2 hX hT2 => ?_)
      rw [lc_rv ho hi2 (by decide), show rvV (aS A) i 3 = nI (rT (aS A) i) from rfl]
      replace hT := hT2.trans hT
      refine ev_iload_n dL_wrong_20 rfl ?_
      refine ev_aload_n dL_wrong_21 rfl ?_
      refine ev_iload_n dL_wrong_22 rfl ?_
      refine ev_iconst dL_wrong_23 ic1 ?_
      refine ev_q kL_276 (as := [.ref 0, .int (nI i), .int (nI 1)]) (rest := [.int (nI m), .int (nI (rT (aS A) i)), .int (nI (sm (wr (aS A) m) i))]) (hL_riverOf hX ((nI i)) ((nI 1))) dL_wrong_24 rfl (by decide) (by omega) rfl (fun w2 hX hT2 => ?_)
      rw [lc_rv ho hi2 (by decide), show rvV (aS A) i 1 = nI (rN (aS A) i) from rfl]
      replace hT := hT2.trans hT
      refine ev_imul dL_wrong_27 ?_
      refine ev_top (pk_mul _ _) ?_
      refine ev_isub dL_wrong_28 ?_
      refine ev_abs aL_197 dL_wrong_29 rfl ?_
      rw [abs_nI (by omega) (by have := Nat.mul_le_mul hm hv.2.2.1; omega), show (rT (aS A) i - m * rN (aS A) i) + (m * rN (aS A) i - rT (aS A) i) = wr (aS A) m i by unfold wr; rw [Nat.mul_comm m]]
      refine ev_iadd dL_wrong_32 ?_
      refine ev_top (nI_add _ _) ?_
      rw [← sm_s]
      refine ev_ist2 dL_wrong_33 (by decide) rfl ?_
      refine ev_iinc3 dL_wrong_34 (nI_inc _) (by decide) rfl ?_
      refine ev_goto (tgt := 4) dL_wrong_37 (by decide) ?_
      exact ev_bu _ (by omega) (ih (i + 1) _ (by omega) hX hT)
  exact ev_bu _ (by omega) (lp (nR (aS A)) 0 _ (by omega) hX rfl)
theorem sp_app {A : AS} {c : Nat} (h1 : 32 ≤ c) (h2 : c ≤ 126) (hn : aN A < 60) : spApp A c = ((0, nI (aN A + 1)), mkA (aS A) (aV A) (aH A) (aN A + 1) (va_up (aT A) (aN A) c) (aL A) (aK A) (aE A)) := by
  unfold spApp
  rw [if_neg (by omega), if_neg (by omega)]
/-- a text that can be typed -/
def tyL (L : List Nat) : Prop := ∀ c ∈ L, 32 ≤ c ∧ c ≤ 126
theorem getD_mem {L : List Nat} {i : Nat} (h : i < L.length) : L.getD i 0 ∈ L := by
  rw [List.getD_eq_getElem?_getD, List.getElem?_eq_getElem h]
  exact List.getElem_mem h
set_option maxRecDepth 8000 in
theorem gL_types {G : GX} {w : WS} {A : AS} (hX : aX A w) (hA : aN A = 0) {x : Nat} {L : List Nat} (hs : str_ G w.2 x L) (hL : L.length ≤ 60) (hty : tyL L) : BigP G 21 70 mL_types [.ref 0, .ref x] w (fun r w2 => r = some (.int (nI 1)) ∧ w2.2 = w.2 ∧ ∃ t, aX (mkA (aS A) (aV A) (aH A) L.length t (aL A) (aK A) (aE A)) w2 ∧ ∀ i, i < L.length → t i = L.getD i 0) := by
  refine bp_of (by decide +kernel) rfl (Nat.le_of_ble_eq_true rfl) ?_
  show Ev G 21 70 mL_types 0 [some (.ref 0), some (.ref x), none, none] [] w _
  obtain ⟨f0, hq0, hx0⟩ := id hs
  refine ev_iconst dL_types_0 ic1 ?_
  refine ev_ist2 dL_types_1 (by decide) rfl ?_
  refine ev_iconst dL_types_2 ic0 ?_
  refine ev_ist3 dL_types_3 (by decide) rfl ?_
  have lp : ∀ (n i : Nat) (w' : WS) (t : Nat → Nat), i + n = L.length → aX (mkA (aS A) (aV A) (aH A) i t (aL A) (aK A) (aE A)) w' → w'.2 = w.2 → (∀ j, j < i → t j = L.getD j 0) → Ev G 21 (n + 1) mL_types 4 [some (.ref 0), some (.ref x), some (.int (nI 1)), some (.int (nI i))] [] w' (zP_ G (fun r w2 => r = some (.int (nI 1)) ∧ w2.2 = w.2 ∧ ∃ t, aX (mkA (aS A) (aV A) (aH A) L.length t (aL A) (aK A) (aE A)) w2 ∧ ∀ i, i < L.length → t i = L.getD i 0)) := by
    intro n
    induction n with
    | zero =>
      intro i w' t hi hX hT ht
      have hq : sv_ G w'.2 x L.length f0 := by rw [hT]; exact hq0
      refine ev_iload_n dL_types_4 rfl ?_
      refine ev_aload_n dL_types_5 rfl ?_
      refine ev_callVg kL_130 (as := []) (rest := [.int (nI i)]) (sv_rv hq) (cJ0_length hq) dL_types_6 rfl (by decide) (by omega) rfl ?_
      refine ev_icmp_ge_t (tgt := 43) dL_types_9 (by decide) (Int32.not_lt.mp (nI_nlt (by omega) (by omega))) ?_
      refine ev_iload_n dL_types_43 rfl ?_
      exact ev_iretP dL_types_44 rfl (by decide) ⟨rfl, hT, t, by rw [← show i = L.length by omega]; exact hX, fun j hj => ht j (by omega)⟩
    | succ n ih =>
      intro i w' t hi hX hT ht
      have hi2 : i < L.length := by omega
      have hq : sv_ G w'.2 x L.length f0 := by rw [hT]; exact hq0
      obtain ⟨c1, c2⟩ := hty _ (getD_mem hi2)
      refine ev_iload_n dL_types_4 rfl ?_
      refine ev_aload_n dL_types_5 rfl ?_
      refine ev_callVg kL_130 (as := []) (rest := [.int (nI i)]) (sv_rv hq) (cJ0_length hq) dL_types_6 rfl (by decide) (by omega) rfl ?_
      refine ev_icmp_ge_f (tgt := 43) dL_types_9 (by decide) (nI_ge hi2 (by omega)) ?_
      refine ev_aload_n dL_types_12 rfl ?_
      refine ev_aload_n dL_types_13 rfl ?_
      refine ev_iload_n dL_types_14 rfl ?_
      refine ev_callVg kL_135 (as := [.int (nI i)]) (rest := [.ref 0]) (sv_rv hq) (cJ0_charAt (L := L) ⟨f0, hq, hx0⟩ hi2 (by omega)) dL_types_15 rfl (by decide) (by omega) rfl ?_
      refine ev_q kL_138 (as := [.ref 0, .int (nI (L.getD i 0))]) (rest := []) (hL_append hX (c := L.getD i 0) (by omega)) dL_types_18 rfl (by decide) (by omega) rfl (fun w2 hX2 hT2 => ?_)
      rw [sp_app c1 c2 (show i < 60 by omega)] at hX2 ⊢
      refine ev_top (y := nI (i + 1)) rfl ?_
      refine ev_iload_n dL_types_21 rfl ?_
      refine ev_iconst dL_types_22 ic1 ?_
      refine ev_iadd dL_types_23 ?_
      refine ev_top (nI_add i 1) ?_
      refine ev_icmp_ne_f (tgt := 35) dL_types_24 (by decide) rfl ?_
      refine ev_iload_n dL_types_27 rfl ?_
      refine ev_if_eq_f (tgt := 35) dL_types_28 (by decide) (by decide) ?_
      refine ev_iconst dL_types_31 ic1 ?_
      refine ev_goto (tgt := 36) dL_types_32 (by decide) ?_
      refine ev_ist2 dL_types_36 (by decide) rfl ?_
      refine ev_iinc3 dL_types_37 (nI_inc _) (by decide) rfl ?_
      refine ev_goto (tgt := 4) dL_types_40 (by decide) ?_
      exact ev_bu _ (by omega) (ih (i + 1) _ (va_up t i (L.getD i 0)) (by omega) hX2 (hT2.trans hT) (fun j hj => by unfold va_up; by_cases e : j = i <;> first | (rw [if_pos e, e]; done) | (rw [if_neg e]; exact ht j (by omega))))
  exact ev_bu _ (by omega) (lp L.length 0 _ (aT A) (by omega) (by rw [← hA]; exact hX) rfl (fun j hj => absurd hj (Nat.not_lt_zero j)))
set_option maxRecDepth 8000 in
theorem gL_read {G : GX} {w : WS} {A : AS} (hX : aX A w) (hA : aN A = 0) {x : Nat} {L : List Nat} (hs : str_ G w.2 x L) (hL : L.length ≤ 60) (hty : tyL L) : BigP G 22 80 mL_read [.ref 0, .ref x] w (fun r w2 => w2.2 = w.2 ∧ ∃ t, (∀ i, i < L.length → t i = L.getD i 0) ∧ r = some (.int (lc_ [(-1), (-2), (-3)] (spRead (mkA (aS A) (aV A) (aH A) L.length t (aL A) (aK A) (aE A))).1)) ∧ aX (spRead (mkA (aS A) (aV A) (aH A) L.length t (aL A) (aK A) (aE A))).2 w2) := by
  refine bp_of (by decide +kernel) rfl (Nat.le_of_ble_eq_true rfl) ?_
  show Ev G 22 80 mL_read 0 [some (.ref 0), some (.ref x)] [] w _
  refine ev_aload_n dL_read_0 rfl ?_
  refine ev_aload_n dL_read_1 rfl ?_
  refine ev_callSP kL_143 (as := [.ref 0, .ref x]) (rest := []) (gL_types hX hA hs hL hty) dL_read_2 rfl (by decide) (by decide) rfl (fun r0 w1 hp => ?_)
  obtain ⟨rfl, hT1, t, hX1, ht⟩ := hp
  refine ev_if_eq_f (tgt := 15) dL_read_5 (by decide) (by decide) ?_
  refine ev_aload_n dL_read_8 rfl ?_
  refine ev_q kL_147 (as := [.ref 0]) (rest := []) (hL_reads hX1) dL_read_9 rfl (by decide) (by decide) rfl (fun w2 hX2 hT2 => ?_)
  refine ev_goto (tgt := 17) dL_read_12 (by decide) ?_
  exact ev_iretP dL_read_17 rfl rfl ⟨hT2.trans hT1, t, ht, rfl, hX2⟩
set_option maxRecDepth 8000 in
theorem gL_draws {G : GX} {w : WS} {A : AS} (hX : aX A w) (hA : aN A = 0) {x : Nat} {L : List Nat} (hs : str_ G w.2 x L) (hL : L.length ≤ 60) (hty : tyL L) (u v : Int32) : BigP G 22 80 mL_draws [.ref 0, .int u, .ref x, .int v] w (fun r w2 => w2.2 = w.2 ∧ ∃ t, (∀ i, i < L.length → t i = L.getD i 0) ∧ r = some (.int (lc_ [(-11), (-12), (-13), (-14)] (spRiver (mkA (aS A) (aV A) (aH A) L.length t (aL A) (aK A) (aE A)) u v).1)) ∧ aX (spRiver (mkA (aS A) (aV A) (aH A) L.length t (aL A) (aK A) (aE A)) u v).2 w2) := by
  refine bp_of (by decide +kernel) rfl (Nat.le_of_ble_eq_true rfl) ?_
  show Ev G 22 80 mL_draws 0 [some (.ref 0), some (.int u), some (.ref x), some (.int v)] [] w _
  refine ev_aload_n dL_draws_0 rfl ?_
  refine ev_aload_n dL_draws_1 rfl ?_
  refine ev_callSP kL_143 (as := [.ref 0, .ref x]) (rest := []) (gL_types hX hA hs hL hty) dL_draws_2 rfl (by decide) (by decide) rfl (fun r0 w1 hp => ?_)
  obtain ⟨rfl, hT1, t, hX1, ht⟩ := hp
  refine ev_if_eq_f (tgt := 17) dL_draws_5 (by decide) (by decide) ?_
  refine ev_aload_n dL_draws_8 rfl ?_
  refine ev_iload_n dL_draws_9 rfl ?_
  refine ev_iload_n dL_draws_10 rfl ?_
  refine ev_q kL_151 (as := [.ref 0, .int u, .int v]) (rest := []) (hL_river hX1 u v) dL_draws_11 rfl (by decide) (by decide) rfl (fun w2 hX2 hT2 => ?_)
  refine ev_goto (tgt := 19) dL_draws_14 (by decide) ?_
  exact ev_iretP dL_draws_19 rfl rfl ⟨hT2.trans hT1, t, ht, rfl, hX2⟩
theorem sp_chr {A : AS} {i : Nat} (h : i < (aL A).length) (h2 : (aL A).length < 2 ^ 31) {a : Int32} : lc_ [a] (spChar A (nI i)).1 = nI ((aL A).getD i 0) ∧ (spChar A (nI i)).2 = A := by
  unfold spChar
  rw [ixN_y h h2]
  exact ⟨rfl, rfl⟩
theorem sp_chrE {A : AS} (h2 : (aL A).length < 2 ^ 31) {a : Int32} : lc_ [a] (spChar A (nI (aL A).length)).1 = a ∧ (spChar A (nI (aL A).length)).2 = A := by
  unfold spChar
  rw [ixN_n (Nat.le_refl _) h2]
  exact ⟨rfl, rfl⟩
set_option maxRecDepth 8000 in
theorem gL_spells {G : GX} {w : WS} {A : AS} (hX : aX A w) {x : Nat} (hs : str_ G w.2 x (aL A)) : BigP G 21 60 mL_spells [.ref 0, .int (nI (aL A).length), .ref x] w (fun r w2 => r = some (.int (nI 1)) ∧ aX A w2 ∧ w2.2 = w.2) := by
  refine bp_of (by decide +kernel) rfl (Nat.le_of_ble_eq_true rfl) ?_
  show Ev G 21 60 mL_spells 0 [some (.ref 0), some (.int (nI (aL A).length)), some (.ref x), none, none] [] w _
  obtain ⟨f0, hq0, hx0⟩ := id hs
  have hL40 : (aL A).length ≤ 40 := hX.2.2.2.2.1.2.1
  refine ev_iload_n dL_spells_0 rfl ?_
  refine ev_aload_n dL_spells_1 rfl ?_
  refine ev_callVg kL_130 (as := []) (rest := [.int (nI (aL A).length)]) (sv_rv hq0) (cJ0_length hq0) dL_spells_2 rfl (by decide) (by decide) rfl ?_
  refine ev_icmp_ne_f (tgt := 12) dL_spells_5 (by decide) rfl ?_
  refine ev_iconst dL_spells_8 ic1 ?_
  refine ev_goto (tgt := 13) dL_spells_9 (by decide) ?_
  refine ev_ist3 dL_spells_13 (by decide) rfl ?_
  refine ev_iconst dL_spells_14 ic0 ?_
  refine ev_ist4 dL_spells_15 (by decide) rfl ?_
  have lp : ∀ (n i : Nat) (w' : WS), i + n = (aL A).length → aX A w' → w'.2 = w.2 → Ev G 21 (n + 2) mL_spells 17 [some (.ref 0), some (.int (nI (aL A).length)), some (.ref x), some (.int (nI 1)), some (.int (nI i))] [] w' (zP_ G (fun r w2 => r = some (.int (nI 1)) ∧ aX A w2 ∧ w2.2 = w.2)) := by
    intro n
    induction n with
    | zero =>
      intro i w' hi hX hT
      have hq : sv_ G w'.2 x (aL A).length f0 := by rw [hT]; exact hq0
      refine ev_iload dL_spells_17 rfl ?_
      refine ev_aload_n dL_spells_19 rfl ?_
      refine ev_callVg kL_130 (as := []) (rest := [.int (nI i)]) (sv_rv hq) (cJ0_length hq) dL_spells_20 rfl (by decide) (by omega) rfl ?_
      refine ev_icmp_ge_t (tgt := 57) dL_spells_23 (by decide) (Int32.not_lt.mp (nI_nlt (by omega) (by omega))) ?_
      refine ev_iload_n dL_spells_57 rfl ?_
      refine ev_if_eq_f (tgt := 75) dL_spells_58 (by decide) (by decide) ?_
      refine ev_aload_n dL_spells_61 rfl ?_
      refine ev_iload_n dL_spells_62 rfl ?_
      refine ev_q kL_300 (as := [.ref 0, .int (nI (aL A).length)]) (rest := []) (hL_character hX (nI (aL A).length)) dL_spells_63 rfl (by decide) (by omega) rfl (fun w2 hX2 hT2 => ?_)
      rw [(sp_chrE (a := 0) (by omega)).2] at hX2
      rw [(sp_chrE (by omega)).1]
      refine ev_bipush (v := (-15)) dL_spells_66 (by decide) ?_
      refine ev_icmp_ne_f (tgt := 75) dL_spells_68 (by decide) rfl ?_
      refine ev_iconst dL_spells_71 ic1 ?_
      refine ev_goto (tgt := 76) dL_spells_72 (by decide) ?_
      exact ev_iretP dL_spells_76 rfl (by decide) ⟨rfl, hX2, hT2.trans hT⟩
    | succ n ih =>
      intro i w' hi hX hT
      have hi2 : i < (aL A).length := by omega
      have hq : sv_ G w'.2 x (aL A).length f0 := by rw [hT]; exact hq0
      refine ev_iload dL_spells_17 rfl ?_
      refine ev_aload_n dL_spells_19 rfl ?_
      refine ev_callVg kL_130 (as := []) (rest := [.int (nI i)]) (sv_rv hq) (cJ0_length hq) dL_spells_20 rfl (by decide) (by omega) rfl ?_
      refine ev_icmp_ge_f (tgt := 57) dL_spells_23 (by decide) (nI_ge hi2 (by omega)) ?_
      refine ev_iload_n dL_spells_26 rfl ?_
      refine ev_if_eq_f (tgt := 57) dL_spells_27 (by decide) (by decide) ?_
      refine ev_aload_n dL_spells_30 rfl ?_
      refine ev_iload dL_spells_31 rfl ?_
      refine ev_q kL_300 (as := [.ref 0, .int (nI i)]) (rest := []) (hL_character hX (nI i)) dL_spells_33 rfl (by decide) (by omega) rfl (fun w2 hX2 hT2 => ?_)
      rw [(sp_chr (a := 0) hi2 (by omega)).2] at hX2
      rw [(sp_chr hi2 (by omega)).1]
      have hq2 : sv_ G w2.2 x (aL A).length f0 := by rw [hT2, hT]; exact hq0
      refine ev_aload_n dL_spells_36 rfl ?_
      refine ev_iload dL_spells_37 rfl ?_
      refine ev_callVg kL_135 (as := [.int (nI i)]) (rest := [.int (nI ((aL A).getD i 0))]) (sv_rv hq2) (cJ0_charAt (L := aL A) ⟨f0, hq2, hx0⟩ hi2 (by omega)) dL_spells_39 rfl (by decide) (by omega) rfl ?_
      refine ev_icmp_ne_f (tgt := 49) dL_spells_42 (by decide) rfl ?_
      refine ev_iconst dL_spells_45 ic1 ?_
      refine ev_goto (tgt := 50) dL_spells_46 (by decide) ?_
      refine ev_ist3 dL_spells_50 (by decide) rfl ?_
      refine ev_iinc4 dL_spells_51 (nI_inc _) (by decide) rfl ?_
      refine ev_goto (tgt := 17) dL_spells_54 (by decide) ?_
      exact ev_bu _ (by omega) (ih (i + 1) _ (by omega) hX2 (hT2.trans hT))
  exact ev_bu _ (by omega) (lp (aL A).length 0 _ (by omega) hX rfl)
