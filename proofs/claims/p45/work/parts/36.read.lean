/-! read; the queries over the whole memory -/
theorem rn_cls (S : ST) (k : Nat) (L : List Cmd) : ((rnC S k L).2.2 = none ∧ (rnC S k L).1 = -1) ∨ ((rnC S k L).2.2 = none ∧ ∃ c, c ≤ k + L.length ∧ (rnC S k L).1 = nI c) ∨ ∃ K, (rnC S k L).2.2 = some K ∧ (rnC S k L).1 = -2 := by
  induction L generalizing S k with
  | nil => exact Or.inr (Or.inl ⟨rfl, k, Nat.le_refl _, rfl⟩)
  | cons q L ih =>
    rw [rnC]
    split
    · exact Or.inl ⟨rfl, rfl⟩
    · split
      · exact Or.inr (Or.inr ⟨_, rfl, rfl⟩)
      · rcases ih (cdo S q) (k + 1) with z | ⟨z, c, hc, e⟩ | z
        · exact Or.inl z
        · exact Or.inr (Or.inl ⟨z, c, by rw [List.length_cons]; omega, e⟩)
        · exact Or.inr (Or.inr z)
theorem cms_le (n : Nat) (t : Nat → Nat) : ∀ (f p : Nat), (cms n t f p).length ≤ f := by
  intro f
  induction f with
  | zero => intro p; exact Nat.le_refl _
  | succ f ih =>
    intro p
    rw [cms]
    split
    · exact Nat.zero_le _
    · split
      · simp
      · have := ih (by assumption : Nat)
        rename_i q _ _
        have := ih (q + 1)
        simp
        omega
def spRead (A : AS) : (Nat × Int32) × AS := match fErr (aN A) (aT A) 60 0 with
  | some p => ((1, 0), mkA (aS A) (aV A) (aH A) 0 (aT A) (aL A) (aK A) (some p))
  | none => match (rnC (aS A) 0 (cms (aN A) (aT A) 60 0)).2.2 with
    | some K => ((3, 0), mkA (aS A) (aV A) (aH A) 0 (aT A) (aL A) K (aE A))
    | none => if (rnC (aS A) 0 (cms (aN A) (aT A) 60 0)).1 = -1 then ((2, 0), aC A) else ((0, (rnC (aS A) 0 (cms (aN A) (aT A) 60 0)).1), mkA (rnC (aS A) 0 (cms (aN A) (aT A) 60 0)).2.1 (aV A) (hPush (aH A) (aS A)) 0 (aT A) (aL A) (aK A) (aE A))
theorem fErr_le {n : Nat} {t : Nat → Nat} : ∀ {f p k : Nat}, p ≤ n → fErr n t f p = some k → k ≤ n := by
  intro f
  induction f with
  | zero => intro p k hp h; cases h; exact hp
  | succ f ih =>
    intro p k hp h
    unfold fErr at h
    obtain ⟨y, q, e⟩ : ∃ y q, cmdAt n t p = (y, q) := ⟨_, _, rfl⟩
    have hb := cmdAt_ok e hp
    rw [e] at h
    cases y with
    | none => cases h; exact hb.2.1
    | some c =>
      dsimp only at h
      split at h
      · cases h
      · split at h
        · rename_i hs
          exact ih (tSg_lt hs) h
        · cases h; exact hb.2.1
set_option maxRecDepth 4000 in
theorem fX11_read {G : GX} {w : WS} {A : AS} (h : aX A w) : ∃ o w2, (pF ["java/lang/IllegalArgumentException", "java/lang/IllegalStateException", "java/lang/UnsupportedOperationException"] (spRead A) w o w2) ∧ Big G 8 1 mX11_read [.ref 0] w o w2 := by
  refine bx_of (P := pF ["java/lang/IllegalArgumentException", "java/lang/IllegalStateException", "java/lang/UnsupportedOperationException"] (spRead A) w) (by decide +kernel) (Nat.le_of_ble_eq_true rfl) ?_
  show Ex G 8 1 mX11_read 0 [some (.ref 0), none, none] [] w _
  refine ex_s (fun _ => ev_aload_n dX11_read_0 rfl) ?_
  refine ex_s (fun _ => ev_getR fX11_39 dX11_read_1 (by decide) sh0 rfl) ?_
  refine ex_s (fun _ => ev_aload_n dX11_read_4 rfl) ?_
  refine ex_s (fun _ => ev_getR fX11_32 dX11_read_5 (by decide) sh0 rfl) ?_
  obtain ⟨g1, g2, g3, g4, g5, g6, g7, g8⟩ := id h
  obtain ⟨_, w1, ⟨rfl, f0⟩, hB1⟩ := qX7_firstError (G := G) g4
  have f1 : frG [(102, 103), (106, 106)] w w1 := frG_L f0 (by decide)
  have hb60 : ∀ k, fErr (aN A) (aT A) 60 0 = some k → k ≤ 60 := fun k hk => Nat.le_trans (fErr_le (Nat.zero_le _) hk) g4.2.1
  refine ex_s (fun _ => ev_callV kX11_332 co106 hB1 dX11_read_8 rfl (by decide) (by decide) rfl) ?_
  refine ex_s (fun _ => ev_ist1 dX11_read_11 (by decide) rfl) ?_
  refine ex_s (fun _ => ev_iload_n dX11_read_12 rfl) ?_
  refine ex_s (fun _ => ev_iconst dX11_read_13 icm1) ?_
  refine ex_bp (fun _ => ev_icmp_eq (tgt := 40) dX11_read_14 (by decide)) (fun hc14 => ?_) (fun hc14 => ?_)
  · have e14 : fErr (aN A) (aT A) 60 0 = none := (oI_none (fun k hk => by have := hb60 k hk; omega)).mp hc14
    refine ex_s (fun _ => ev_aload_n dX11_read_40 rfl) ?_
    refine ex_s (fun _ => ev_getR fX11_16 dX11_read_41 (by decide) sh0 rfl) ?_
    refine ex_s (fun _ => ev_aload_n dX11_read_44 rfl) ?_
    refine ex_s (fun _ => ev_getR fX11_10 dX11_read_45 (by decide) sh0 rfl) ?_
    refine ex_s (fun _ => ev_callV kX11_338 co12 (qX1_copyFrom (i := 1) (j := 0) (by decide) (by decide) (by decide)) dX11_read_48 rfl (by decide) (by decide) rfl) ?_
    refine ex_s (fun _ => ev_aload_n dX11_read_51 rfl) ?_
    have f2 : frG [(12, 22)] w1 (cpW w1 1 0) := ⟨fun k hk => by
      have := of_decide_eq_true (List.all_eq_true.mp hk (12, 22) (List.mem_cons_self))
      exact cpW_n (by omega), rfl⟩
    have fw2 : frG [(1, 22), (102, 104), (106, 106), (109, 111)] w (cpW w1 1 0) := frG_tr (frG_mo f1 (by decide)) (frG_mo f2 (by decide))
    obtain ⟨o1, w4, hCT, hB4⟩ := qX11_carryOutText (G := G) (w := cpW w1 1 0) (n := aN A) (t := aT A) (K := aK A) (cmG (cmG g1 f1 (by decide)) f2 (by decide)) (inG (inG g4 f1 (by decide)) f2 (by decide)) (kG (kG g6 f1 (by decide)) f2 (by decide)) e14
    obtain ⟨rfl, hT4, hK4, f4⟩ := hCT
    have f5 : frG [(104, 104)] w4 (cs_ w4 104 (upd (w4.1 104) 1 (nI 0))) := frG_cs frG_rf (by decide) _
    have fw5 : frG [(1, 22), (102, 104), (106, 106), (109, 111)] w (cs_ w4 104 (upd (w4.1 104) 1 (nI 0))) := frG_tr (frG_tr fw2 (frG_mo f4 (by decide))) (frG_mo f5 (by decide))
    have hb4 : chA (aS A) (cs_ w4 104 (upd (w4.1 104) 1 (nI 0))) (1 + 11 * 1) := ch_eq (ch_eq (ch_cp (i := 1) (j := 0) (cmG g1 f1 (by decide)).1 g1.2) (fun k a b => frG_in f4 (lo := 12) (hi := 22) (by decide) (by omega) (by omega))) (fun k a b => frG_in f5 (lo := 12) (hi := 22) (by decide) (by omega) (by omega))
    have hin : inA 0 (aT A) (cs_ w4 104 (upd (w4.1 104) 1 (nI 0))) := ⟨rfl, Nat.zero_le _, fun i hi => absurd hi (Nat.not_lt_zero _)⟩
    refine ex_s (fun _ => ev_callV kX11_342 co0 hB4 dX11_read_52 rfl (by decide) (by decide) rfl) ?_
    refine ex_s (fun _ => ev_ist2 dX11_read_55 (by decide) rfl) ?_
    refine ex_s (fun _ => ev_aload_n dX11_read_56 rfl) ?_
    refine ex_s (fun _ => ev_getR fX11_47 dX11_read_57 (by decide) sh0 rfl) ?_
    refine ex_s (fun _ => ev_callV kX11_109 co104 qX9_clear_104 dX11_read_60 rfl (by decide) (by decide) rfl) ?_
    rcases rn_cls (aS A) 0 (cms (aN A) (aT A) 60 0) with ⟨ez, ev⟩ | ⟨ez, c, hcl, ev⟩ | ⟨K, ez, ev⟩
    · have hKz : kA (aK A) w4 := by rw [ez] at hK4; exact hK4
      rw [ev]
      have f6 : frG [(1, 11)] (cs_ w4 104 (upd (w4.1 104) 1 (nI 0))) (cpW (cs_ w4 104 (upd (w4.1 104) 1 (nI 0))) 0 1) := ⟨fun k hk => by
        have := of_decide_eq_true (List.all_eq_true.mp hk (1, 11) (List.mem_cons_self))
        exact cpW_n (by omega), rfl⟩
      have fw6 : frG [(1, 22), (102, 104), (106, 106), (109, 111)] w (cpW (cs_ w4 104 (upd (w4.1 104) 1 (nI 0))) 0 1) := frG_tr fw5 (frG_mo f6 (by decide))
      have hS6 : cm_ (aS A) (cpW (cs_ w4 104 (upd (w4.1 104) 1 (nI 0))) 0 1) := ⟨ch_cp (i := 0) (j := 1) hb4 g1.2, g1.2⟩
      refine ex_s (fun _ => ev_iload_n dX11_read_63 rfl) ?_
      refine ex_s (fun _ => ev_if_ge_f (tgt := 78) dX11_read_64 (by decide) (by decide)) ?_
      refine ex_s (fun _ => ev_aload_n dX11_read_67 rfl) ?_
      refine ex_s (fun _ => ev_getR fX11_10 dX11_read_68 (by decide) sh0 rfl) ?_
      refine ex_s (fun _ => ev_aload_n dX11_read_71 rfl) ?_
      refine ex_s (fun _ => ev_getR fX11_16 dX11_read_72 (by decide) sh0 rfl) ?_
      refine ex_s (fun _ => ev_callV kX11_338 co1 (qX1_copyFrom (i := 0) (j := 1) (by decide) (by decide) (by decide)) dX11_read_75 rfl (by decide) (by decide) rfl) ?_
      refine ex_s (fun _ => ev_iload_n dX11_read_78 rfl) ?_
      refine ex_s (fun _ => ev_iconst dX11_read_79 icm1) ?_
      refine ex_s (fun _ => ev_icmp_ne_f (tgt := 94) dX11_read_80 (by decide) rfl) ?_
      exact ⟨_, _, (by show pF _ (spRead A) w _ _; unfold spRead; rw [e14]; dsimp only; rw [ez]; dsimp only; rw [if_pos ev]; exact ⟨rfl, ⟨hS6, svG g2 fw6 (by decide) (by decide), hG g3 fw6 (by decide), inG hin f6 (by decide), lnG g5 fw6 (by decide), kG (kG hKz f5 (by decide)) f6 (by decide), by rw [frG_at fw6 (by decide)]; exact g7, g8⟩, frG_mo fw6 (by decide)⟩), ev_throwW tX11_114_345_118 dX11_read_83 dX11_read_86 dX11_read_87 dX11_read_90 dX11_read_93 (by decide) rfl rfl⟩
    · have hKz : kA (aK A) w4 := by rw [ez] at hK4; exact hK4
      have hcl2 := cms_le (aN A) (aT A) 60 0
      rw [ev]
      refine ex_s (fun _ => ev_iload_n dX11_read_63 rfl) ?_
      refine ex_s (fun _ => ev_if_ge_t (tgt := 78) dX11_read_64 (by decide) (nI_le (Nat.zero_le c) (by omega))) ?_
      refine ex_s (fun _ => ev_iload_n dX11_read_78 rfl) ?_
      refine ex_s (fun _ => ev_iconst dX11_read_79 icm1) ?_
      refine ex_s (fun _ => ev_icmp_ne_t (tgt := 94) dX11_read_80 (by decide) (nI_m1 (by omega))) ?_
      refine ex_s (fun _ => ev_iload_n dX11_read_94 rfl) ?_
      refine ex_s (fun _ => ev_bipush (v := -2) dX11_read_95 (by decide)) ?_
      refine ex_s (fun _ => ev_icmp_ne_t (tgt := 111) dX11_read_97 (by decide) (fun q => nI_pos (n := c) (by omega) (by rw [q]; decide))) ?_
      refine ex_s (fun _ => ev_aload_n dX11_read_111 rfl) ?_
      refine ex_s (fun _ => ev_getR fX11_25 dX11_read_112 (by decide) sh0 rfl) ?_
      refine ex_s (fun _ => ev_aload_n dX11_read_115 rfl) ?_
      refine ex_s (fun _ => ev_getR fX11_16 dX11_read_116 (by decide) sh0 rfl) ?_
      obtain ⟨o2, ho6, ho1, hHl, hH6, hHH⟩ := hG g3 fw5 (by decide)
      have f7 : frG [(34, 100)] (cs_ w4 104 (upd (w4.1 104) 1 (nI 0))) (wRe (cs_ w4 104 (upd (w4.1 104) 1 (nI 0))) o2 (aH A).length 1) := fr_wRe ho6
      refine ex_s (fun _ => ev_callV kX11_352 co100 (qX4_remember (j := 1) ho1 ho6 hHl hH6 (by decide)) dX11_read_119 rfl (by decide) (by decide) rfl) ?_
      refine ex_s (fun _ => ev_iload_n dX11_read_122 rfl) ?_
      exact ⟨_, _, (by show pF _ (spRead A) w _ _; unfold spRead; rw [e14]; dsimp only; rw [ez]; dsimp only; rw [if_neg (by rw [ev]; exact nI_m1 (by omega)), ev]; exact ⟨rfl, ⟨cmG (cmG hT4 f5 (by decide)) f7 (by decide), svG (svG g2 fw5 (by decide) (by decide)) f7 (by decide) (by decide), hA_re ho6 ho1 hH6 hHH (by decide) hb4 g1.2, inG hin f7 (by decide), lnG (lnG g5 fw5 (by decide)) f7 (by decide), kG (kG hKz f5 (by decide)) f7 (by decide), by rw [frG_at f7 (by decide), frG_at fw5 (by decide)]; exact g7, g8⟩, frG_tr (frG_mo fw5 (by decide)) (frG_mo f7 (by decide))⟩), ev_iret dX11_read_123 rfl rfl rfl rfl⟩
    · have hKz : kA K w4 := by rw [ez] at hK4; exact hK4
      rw [ev]
      have f6 : frG [(1, 11)] (cs_ w4 104 (upd (w4.1 104) 1 (nI 0))) (cpW (cs_ w4 104 (upd (w4.1 104) 1 (nI 0))) 0 1) := ⟨fun k hk => by
        have := of_decide_eq_true (List.all_eq_true.mp hk (1, 11) (List.mem_cons_self))
        exact cpW_n (by omega), rfl⟩
      have fw6 : frG [(1, 22), (102, 104), (106, 106), (109, 111)] w (cpW (cs_ w4 104 (upd (w4.1 104) 1 (nI 0))) 0 1) := frG_tr fw5 (frG_mo f6 (by decide))
      have hS6 : cm_ (aS A) (cpW (cs_ w4 104 (upd (w4.1 104) 1 (nI 0))) 0 1) := ⟨ch_cp (i := 0) (j := 1) hb4 g1.2, g1.2⟩
      refine ex_s (fun _ => ev_iload_n dX11_read_63 rfl) ?_
      refine ex_s (fun _ => ev_if_ge_f (tgt := 78) dX11_read_64 (by decide) (by decide)) ?_
      refine ex_s (fun _ => ev_aload_n dX11_read_67 rfl) ?_
      refine ex_s (fun _ => ev_getR fX11_10 dX11_read_68 (by decide) sh0 rfl) ?_
      refine ex_s (fun _ => ev_aload_n dX11_read_71 rfl) ?_
      refine ex_s (fun _ => ev_getR fX11_16 dX11_read_72 (by decide) sh0 rfl) ?_
      refine ex_s (fun _ => ev_callV kX11_338 co1 (qX1_copyFrom (i := 0) (j := 1) (by decide) (by decide) (by decide)) dX11_read_75 rfl (by decide) (by decide) rfl) ?_
      refine ex_s (fun _ => ev_iload_n dX11_read_78 rfl) ?_
      refine ex_s (fun _ => ev_iconst dX11_read_79 icm1) ?_
      refine ex_s (fun _ => ev_icmp_ne_t (tgt := 94) dX11_read_80 (by decide) (by decide)) ?_
      refine ex_s (fun _ => ev_iload_n dX11_read_94 rfl) ?_
      refine ex_s (fun _ => ev_bipush (v := -2) dX11_read_95 (by decide)) ?_
      refine ex_s (fun _ => ev_icmp_ne_f (tgt := 111) dX11_read_97 (by decide) rfl) ?_
      exact ⟨_, _, (by show pF _ (spRead A) w _ _; unfold spRead; rw [e14]; dsimp only; rw [ez]; dsimp only; exact ⟨rfl, ⟨hS6, svG g2 fw6 (by decide) (by decide), hG g3 fw6 (by decide), inG hin f6 (by decide), lnG g5 fw6 (by decide), kG (kG hKz f5 (by decide)) f6 (by decide), by rw [frG_at fw6 (by decide)]; exact g7, g8⟩, frG_mo fw6 (by decide)⟩), ev_throwW tX11_347_349_351 dX11_read_100 dX11_read_103 dX11_read_104 dX11_read_107 dX11_read_110 (by decide) rfl rfl⟩
  · obtain ⟨p, e14⟩ : ∃ p, fErr (aN A) (aT A) 60 0 = some p := by
      cases e : fErr (aN A) (aT A) 60 0 with
      | none => rw [e] at hc14; exact absurd rfl hc14
      | some d => exact ⟨d, rfl⟩
    rw [e14]
    refine ex_s (fun _ => ev_aload_n dX11_read_17 rfl) ?_
    refine ex_s (fun _ => ev_iload_n dX11_read_18 rfl) ?_
    refine ex_s (fun _ => ev_put fX11_70 dX11_read_19 rfl rfl (by decide) sh0 rfl) ?_
    refine ex_s (fun _ => ev_aload_n dX11_read_22 rfl) ?_
    refine ex_s (fun _ => ev_getR fX11_47 dX11_read_23 (by decide) sh0 rfl) ?_
    refine ex_s (fun _ => ev_callV kX11_109 co104 qX9_clear_104 dX11_read_26 rfl (by decide) (by decide) rfl) ?_
    exact ⟨_, _, (by show pF _ (spRead A) w _ _; unfold spRead; rw [e14]; dsimp only; have f3 : frG [(0, 0), (104, 104)] w1 (cs_ (cs_ w1 0 (upd (w1.1 0) 11 (nI p))) 104 (upd (w1.1 104) 1 (nI 0))) := frG_cs (frG_cs frG_rf (by decide) _) (by decide) _; exact ⟨rfl, ⟨cmG (cmG g1 f1 (by decide)) f3 (by decide), (by have q := svG g2 f1 (by decide) (by decide); exact ⟨fun z => q.1 z, fun T hT => ⟨(q.2 T hT).1, ch_eq (q.2 T hT).2.1 (fun k a b => frG_in f3 (lo := 23) (hi := 33) (by decide) a b), (q.2 T hT).2.2⟩⟩), hG (hG g3 f1 (by decide)) f3 (by decide), ⟨rfl, Nat.zero_le _, fun i hi => absurd hi (Nat.not_lt_zero _)⟩, lnG (lnG g5 f1 (by decide)) f3 (by decide), kG (kG g6 f1 (by decide)) f3 (by decide), rfl, fun z hz => by cases hz; exact hb60 _ e14⟩, frG_tr (frG_mo f1 (by decide)) (frG_mo f3 (by decide))⟩), ev_throwW tX11_82_336_86 dX11_read_29 dX11_read_32 dX11_read_33 dX11_read_36 dX11_read_39 (by decide) rfl rfl⟩
theorem fX11_realmAt {G : GX} {w : WS} {A : AS} (h : aX A w) (x : Int32) : ∃ o w2, pF ["java/lang/IndexOutOfBoundsException"] (qAt (aS A) x, A) w o w2 ∧ Big G 3 1 mX11_realmAt [.ref 0, .int x] w o w2 := fx_of h (qX11_realmAt h.1 x)
theorem fX11_realmOf {G : GX} {w : WS} {A : AS} (h : aX A w) (x y : Int32) : ∃ o w2, pF ["java/lang/IndexOutOfBoundsException", "java/lang/IllegalArgumentException"] (qRo (aS A) x y, A) w o w2 ∧ Big G 5 1 mX11_realmOf [.ref 0, .int x, .int y] w o w2 := fx_of h (qX11_realmOf h.1 x y)
theorem fX11_riverOf {G : GX} {w : WS} {A : AS} (h : aX A w) (x y : Int32) : ∃ o w2, pF ["java/lang/IndexOutOfBoundsException", "java/lang/IllegalArgumentException"] (qRv (aS A) x y, A) w o w2 ∧ Big G 5 1 mX11_riverOf [.ref 0, .int x, .int y] w o w2 := fx_of h (qX11_riverOf h.1 x y)
theorem fX11_riverAt {G : GX} {w : WS} {A : AS} (h : aX A w) (x y : Int32) : ∃ o w2, pF ["java/lang/IndexOutOfBoundsException", "java/util/NoSuchElementException"] (qRa (aS A) x y, A) w o w2 ∧ Big G 5 1 mX11_riverAt [.ref 0, .int x, .int y] w o w2 := fx_of h (qX11_riverAt h.1 x y)
theorem fX11_dragonOf {G : GX} {w : WS} {A : AS} (h : aX A w) (x y : Int32) : ∃ o w2, pF ["java/lang/IndexOutOfBoundsException", "java/lang/IllegalArgumentException"] (qDr (aS A) x y, A) w o w2 ∧ Big G 5 1 mX11_dragonOf [.ref 0, .int x, .int y] w o w2 := fx_of h (qX11_dragonOf h.1 x y)
theorem fX11_border {G : GX} {w : WS} {A : AS} (h : aX A w) (x y : Int32) : ∃ o w2, pF ["java/lang/IndexOutOfBoundsException"] (qBo (aS A) x y, A) w o w2 ∧ Big G 5 1 mX11_border [.ref 0, .int x, .int y] w o w2 := fx_of h (qX11_border h.1 x y)
theorem fX11_couldShave {G : GX} {w : WS} {A : AS} (h : aX A w) (x y : Int32) : ∃ o w2, pF ["java/lang/IndexOutOfBoundsException"] (qCs (aS A) x y, A) w o w2 ∧ Big G 5 1 mX11_couldShave [.ref 0, .int x, .int y] w o w2 := fx_of h (qX11_couldShave h.1 x y)
theorem fX11_weight {G : GX} {w : WS} {A : AS} (h : aX A w) (x : Int32) : ∃ o w2, pF ["java/lang/IndexOutOfBoundsException"] (qWe (aS A) x, A) w o w2 ∧ Big G 5 1 mX11_weight [.ref 0, .int x] w o w2 := fx_of h (qX11_weight h.1 x)
theorem fX11_weightAgain {G : GX} {w : WS} {A : AS} (h : aX A w) (x : Int32) : ∃ o w2, pF ["java/lang/IndexOutOfBoundsException"] (qWe (aS A) x, A) w o w2 ∧ Big G 5 1 mX11_weightAgain [.ref 0, .int x] w o w2 := fx_of h (qX11_weightAgain h.1 x)
theorem fX11_around {G : GX} {w : WS} {A : AS} (h : aX A w) (x : Int32) : ∃ o w2, pF ["java/lang/IndexOutOfBoundsException"] (qAr (aS A) x, A) w o w2 ∧ Big G 5 1 mX11_around [.ref 0, .int x] w o w2 := fx_of h (qX11_around h.1 x)
theorem fX11_aroundAgain {G : GX} {w : WS} {A : AS} (h : aX A w) (x : Int32) : ∃ o w2, pF ["java/lang/IndexOutOfBoundsException"] (qAr (aS A) x, A) w o w2 ∧ Big G 5 1 mX11_aroundAgain [.ref 0, .int x] w o w2 := fx_of h (qX11_aroundAgain h.1 x)
theorem fX11_shavable {G : GX} {w : WS} {A : AS} (h : aX A w) (x : Int32) : ∃ o w2, pF ["java/lang/IndexOutOfBoundsException"] (qSh (aS A) x, A) w o w2 ∧ Big G 5 1 mX11_shavable [.ref 0, .int x] w o w2 := fx_of h (qX11_shavable h.1 x)
theorem fX11_parts {G : GX} {w : WS} {A : AS} (h : aX A w) (x : Int32) : ∃ o w2, pF ["java/lang/IndexOutOfBoundsException"] (qPa (aS A) x, A) w o w2 ∧ Big G 6 1 mX11_parts [.ref 0, .int x] w o w2 := fx_pq h (qX11_parts h.1 x)
theorem fX11_partsAgain {G : GX} {w : WS} {A : AS} (h : aX A w) (x : Int32) : ∃ o w2, pF ["java/lang/IndexOutOfBoundsException"] (qPa (aS A) x, A) w o w2 ∧ Big G 6 1 mX11_partsAgain [.ref 0, .int x] w o w2 := fx_pq h (qX11_partsAgain h.1 x)
theorem fX11_ranked {G : GX} {w : WS} {A : AS} (h : aX A w) (x : Int32) : ∃ o w2, pF ["java/util/NoSuchElementException"] (qRk (aS A) x, A) w o w2 ∧ Big G 7 1 mX11_ranked [.ref 0, .int x] w o w2 := fx_of h (qX11_ranked h.1 x)
theorem fX11_heaviest {G : GX} {w : WS} {A : AS} (h : aX A w) (x : Int32) : ∃ o w2, pF ["java/util/NoSuchElementException"] (qHv (aS A) x, A) w o w2 ∧ Big G 7 1 mX11_heaviest [.ref 0, .int x] w o w2 := fx_of h (qX11_heaviest h.1 x)
theorem fX11_lies {G : GX} {w : WS} {A : AS} (h : aX A w) (b : Bool) (x : Int32) : ∃ o w2, pF ["java/lang/IllegalArgumentException"] (qLi (aS A) b x, A) w o w2 ∧ Big G 6 1 mX11_lies [.ref 0, .int (bI b), .int x] w o w2 := fx_of h (qX11_lies h.1 b x)
theorem fX11_liesAgain {G : GX} {w : WS} {A : AS} (h : aX A w) (b : Bool) (x : Int32) : ∃ o w2, pF ["java/lang/IllegalArgumentException"] (qLi (aS A) b x, A) w o w2 ∧ Big G 6 1 mX11_liesAgain [.ref 0, .int (bI b), .int x] w o w2 := fx_of h (qX11_liesAgain h.1 b x)
theorem fX11_bestScale {G : GX} {w : WS} {A : AS} (h : aX A w) : ∃ o w2, pF ["java/util/NoSuchElementException"] (qBs (aS A), A) w o w2 ∧ Big G 5 1 mX11_bestScale [.ref 0] w o w2 := fx_of h (qX11_bestScale h.1)
