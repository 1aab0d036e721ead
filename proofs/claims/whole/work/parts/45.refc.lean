/-! the reference holds the whole memory; its calls -/
def inM (n : Nat) (t : Nat → Nat) (w : WS) : Prop := w.1 115 13 = nI n ∧ n ≤ 60 ∧ ∀ i, i < n → w.1 123 i = nI (t i) ∧ 32 ≤ t i ∧ t i ≤ 126
def svM (V : Option ST) (w : WS) : Prop := (V = none → w.1 115 3 = nI 0) ∧ ∀ T, V = some T → w.1 115 3 = nI 1 ∧ rA T (w.1 118) ∧ okS T
def lnM (l : List Nat) (w : WS) : Prop := w.1 115 11 = nI l.length ∧ l.length ≤ 40 ∧ ∀ i v, l[i]? = some v → w.1 122 i = nI v ∧ v < 128
def mX (A : AS) (w : WS) : Prop := mR (aS A) w ∧ svM (aV A) w ∧ hM (aH A) w ∧ inM (aN A) (aT A) w ∧ lnM (aL A) w ∧ rsn (aK A) (w.1 120) ∧ w.1 115 16 = oI (aE A) ∧ ∀ p, aE A = some p → p ≤ 60
/-- the same numbers, but for the map -/
theorem mX_S {A : AS} {T : ST} {w w2 : WS} (h : mX A w) (hT : mR T w2) (h3 : w2.1 115 3 = w.1 115 3) (h5 : w2.1 115 5 = w.1 115 5) (h11 : w2.1 115 11 = w.1 115 11) (h13 : w2.1 115 13 = w.1 115 13) (h16 : w2.1 115 16 = w.1 115 16) (hf : frG [(115, 117), (121, 121), (124, 124)] w w2) : mX (mkA T (aV A) (aH A) (aN A) (aT A) (aL A) (aK A) (aE A)) w2 := by
  obtain ⟨g1, g2, g3, g4, g5, g6, g7, g8⟩ := h
  have e118 := frG_at hf (k := 118) (by decide)
  have e119 := frG_at hf (k := 119) (by decide)
  have e120 := frG_at hf (k := 120) (by decide)
  have e122 := frG_at hf (k := 122) (by decide)
  have e123 := frG_at hf (k := 123) (by decide)
  refine ⟨hT, ⟨fun z => h3.trans (g2.1 z), fun V hV => ⟨h3.trans (g2.2 V hV).1, by rw [e118]; exact (g2.2 V hV).2.1, (g2.2 V hV).2.2⟩⟩, ⟨h5.trans g3.1, g3.2.1, fun i V hV => ⟨by rw [e119]; exact (g3.2.2 i V hV).1, (g3.2.2 i V hV).2⟩⟩, ⟨h13.trans g4.1, g4.2.1, fun i hi => by rw [e123]; exact g4.2.2 i hi⟩, ⟨h11.trans g5.1, g5.2.1, fun i v hv => by rw [e122]; exact g5.2.2 i v hv⟩, by rw [e120]; exact g6, h16.trans g7, g8⟩
theorem mX_e {A : AS} {w w2 : WS} (h : mX A w) (he : w2.1 116 = w.1 116) (h3 : w2.1 115 3 = w.1 115 3) (h5 : w2.1 115 5 = w.1 115 5) (h11 : w2.1 115 11 = w.1 115 11) (h13 : w2.1 115 13 = w.1 115 13) (h16 : w2.1 115 16 = w.1 115 16) (hf : frG [(115, 117), (121, 121), (124, 124)] w w2) : mX A w2 := mX_S h (mRe h.1 he) h3 h5 h11 h13 h16 hf
def pMo (r : (Nat × Int32) × AS) (w : WS) : OT → WS → Prop := fun o w2 => ∃ v, o = .inl (some (.int v)) ∧ (r.1.1 = 0 → v = r.1.2) ∧ w2.1 115 6 = nI r.1.1 ∧ mX r.2 w2 ∧ frG [(115, 124)] w w2
/-- after keep -/
def KB (A : AS) (w b : WS) : Prop := mX A b ∧ b.1 115 6 = nI 0 ∧ rA (aS A) (b.1 117) ∧ frG [(115, 124)] w b
theorem kb_0 {A : AS} {w : WS} (h : mX A w) : KB A w (cs_ (wT w 0) 117 (va_cpy (w.1 116) (w.1 117) 0 0 158)) := ⟨mX_e h rfl rfl rfl rfl rfl rfl (frG_cs (frG_cs frG_rf (by decide) _) (by decide) _), rfl, rA_eq h.1.1 h.1.2 (fun k hk => by
  show va_cpy (w.1 116) (w.1 117) 0 0 158 k = w.1 116 k
  rw [pk_cpy_in (by omega) (by omega), show 0 + (k - 0) = k by omega]), frG_cs (frG_cs frG_rf (by decide) _) (by decide) _⟩
abbrev wBk (w : WS) : WS := cs_ w 116 (va_cpy (w.1 117) (w.1 116) 0 0 158)
theorem bk_r {S : ST} {w : WS} (h : rA S (w.1 117)) (hk : okS S) : mR S (wBk w) := ⟨rA_eq h hk (fun k hk => by
  show va_cpy (w.1 117) (w.1 116) 0 0 158 k = w.1 117 k
  rw [pk_cpy_in (by omega) (by omega), show 0 + (k - 0) = k by omega]), hk⟩
theorem kb_n {A : AS} {w b : WS} (h : KB A w b) {k : Nat} (h1 : 1 ≤ k) : pMo ((k, 0), A) w (.inl (some (.int (nI 0)))) (wBk (wT b k)) := by
  obtain ⟨g1, g2, g3, g4⟩ := h
  exact ⟨_, rfl, fun z => absurd z (by show ¬ k = 0; omega), rfl, mX_S g1 (bk_r (w := wT b k) g3 g1.1.2) rfl rfl rfl rfl rfl (frG_cs (frG_cs frG_rf (by decide) _) (by decide) _), frG_tr g4 (frG_cs (frG_cs frG_rf (by decide) _) (by decide) _)⟩
theorem kb_r {A : AS} {w b w3 : WS} (h : KB A w b) {q : Cmd} {e : Nat} {o : OT} (hp : pDo (aS A) q e b o w3) (hg : grC (aS A) q ≠ 0) (he : 1 ≤ e) : pMo (spCh A e q) w (.inl (some (.int (nI 0)))) (wBk w3) ∧ w3.1 115 6 = nI e := by
  obtain ⟨g1, g2, g3, g4⟩ := h
  obtain ⟨-, hp1, -⟩ := hp
  obtain ⟨k1, k2, k3, k4⟩ := hp1 hg
  have h6 : w3.1 115 6 = nI e := by rw [k2]; rfl
  refine ⟨?_, h6⟩
  unfold spCh
  rw [if_pos hg]
  refine ⟨_, rfl, fun z => absurd z (by show ¬ e = 0; omega), h6, ?_, frG_tr g4 (frG_cs (frG_mo k4 (by decide)) (by decide) _)⟩
  obtain ⟨f1, f2, f3, f4, f5, f6, f7, f8⟩ := g1
  have hb : rA (aS A) (w3.1 117) := by rw [frG_at k4 (by decide)]; exact g3
  have e15 : ∀ j, j ≠ 6 → j ≠ 8 → w3.1 115 j = b.1 115 j := fun j a c => by rw [k2, pk_un c, pk_un a]
  refine ⟨bk_r hb f1.2, ⟨fun z => (e15 3 (by decide) (by decide)).trans (f2.1 z), fun V hV => ⟨(e15 3 (by decide) (by decide)).trans (f2.2 V hV).1, (by show rA V (w3.1 118); rw [frG_at k4 (by decide)]; exact (f2.2 V hV).2.1), (f2.2 V hV).2.2⟩⟩, ⟨(e15 5 (by decide) (by decide)).trans f3.1, f3.2.1, fun i V hV => ⟨(by show rA V (fun k => w3.1 119 (158 * i + k)); rw [frG_at k4 (by decide)]; exact (f3.2.2 i V hV).1), (f3.2.2 i V hV).2⟩⟩, ⟨(e15 13 (by decide) (by decide)).trans f4.1, f4.2.1, fun i hi => (by show w3.1 123 i = _ ∧ _; rw [frG_at k4 (by decide)]; exact f4.2.2 i hi)⟩, ⟨(e15 11 (by decide) (by decide)).trans f5.1, f5.2.1, fun i v hv => (by show w3.1 122 i = _ ∧ _; rw [frG_at k4 (by decide)]; exact f5.2.2 i v hv)⟩, k3, (e15 16 (by decide) (by decide)).trans f7, f8⟩
/-- the end of a change: the map before goes to the past -/
theorem kb_e {A : AS} {T : ST} {w b w3 : WS} (h : KB A w b) (hT : mR T w3) (hf : frG [(116, 116)] b w3) : mX (mkA T (aV A) (hPush (aH A) (aS A)) (aN A) (aT A) (aL A) (aK A) (aE A)) (wE w3 (aH A).length) ∧ (wE w3 (aH A).length).1 115 6 = nI 0 ∧ frG [(115, 124)] w (wE w3 (aH A).length) := by
  obtain ⟨g1, g2, g3, g4⟩ := h
  obtain ⟨f1, f2, f3, f4, f5, f6, f7, f8⟩ := g1
  have hE := fr_wE (w := w3) (m := (aH A).length)
  have e115 : w3.1 115 = b.1 115 := frG_at hf (by decide)
  have e15 : ∀ j, j ≠ 5 → (wE w3 (aH A).length).1 115 j = b.1 115 j := fun j a => by rw [wE_s a, e115]
  have ek : ∀ k, [(115, 116), (119, 119)].all (fun q => decide (k < q.1 ∨ q.2 < k)) = true → (wE w3 (aH A).length).1 k = b.1 k := fun k hk => (frG_at (frG_tr (frG_mo hf (R2 := [(115, 116), (119, 119)]) (by decide)) (frG_mo hE (by decide))) hk)
  have h3 : hM (aH A) w3 := ⟨by rw [e115]; exact f3.1, f3.2.1, fun i V hV => ⟨by rw [frG_at hf (by decide)]; exact (f3.2.2 i V hV).1, (f3.2.2 i V hV).2⟩⟩
  refine ⟨⟨mRe hT (frG_at hE (by decide)), ⟨fun z => (e15 3 (by decide)).trans (f2.1 z), fun V hV => ⟨(e15 3 (by decide)).trans (f2.2 V hV).1, by rw [ek 118 (by decide)]; exact (f2.2 V hV).2.1, (f2.2 V hV).2.2⟩⟩, hM_E h3 (by rw [frG_at hf (by decide)]; exact g3) f1.2, ⟨(e15 13 (by decide)).trans f4.1, f4.2.1, fun i hi => by rw [ek 123 (by decide)]; exact f4.2.2 i hi⟩, ⟨(e15 11 (by decide)).trans f5.1, f5.2.1, fun i v hv => by rw [ek 122 (by decide)]; exact f5.2.2 i v hv⟩, by rw [ek 120 (by decide)]; exact f6, (e15 16 (by decide)).trans f7, f8⟩, (e15 6 (by decide)).trans g2, frG_tr g4 (frG_tr (frG_mo hf (by decide)) (frG_mo hE (by decide)))⟩
theorem kb_y {A : AS} {w b w3 : WS} (h : KB A w b) {q : Cmd} {e : Nat} {o : OT} (hp : pDo (aS A) q e b o w3) (hg : grC (aS A) q = 0) : pMo (spCh A e q) w (.inl (some (.int (crt (aS A) q)))) (wE w3 (aH A).length) ∧ w3.1 115 6 = nI 0 ∧ w3.1 115 5 = nI (aH A).length := by
  obtain ⟨-, -, hp2⟩ := hp
  obtain ⟨k1, k2⟩ := hp2 hg
  obtain ⟨j1, j2, j3⟩ := kb_e h k1 k2
  have e115 : w3.1 115 = b.1 115 := frG_at k2 (by decide)
  refine ⟨?_, by rw [e115]; exact h.2.1, by rw [e115]; exact h.1.2.2.1.1⟩
  unfold spCh
  rw [if_neg (fun z => z hg)]
  exact ⟨_, rfl, fun _ => rfl, j2, j1, j3⟩
set_option maxRecDepth 4000 in
theorem gX12_paint_n {G : GX} {w : WS} {A : AS} (h : mX A w) {x : Int32} (hx : out_ 64 x) (y : Int32) : ∃ o w2, (pMo ((1, 0), A) w o w2) ∧ Big G 9 0 mX12_paint [.ref 115, .int x, .int y] w o w2 := by
  refine bx_of (P := pMo ((1, 0), A) w) (by decide +kernel) (Nat.le_of_ble_eq_true rfl) ?_
  show Ex G 9 0 mX12_paint 0 [some (.ref 115), some (.int x), some (.int y)] [] w _
  refine ex_s (fun _ => ev_aload_n dX12_paint_0 rfl) ?_
  refine ex_s (fun _ => ev_callV kX12_93 co115 qX12_keep dX12_paint_1 rfl (by decide) (by decide) rfl) ?_
  refine ex_s (fun _ => ev_aload_n dX12_paint_4 rfl) ?_
  refine ex_s (fun _ => ev_aload_n dX12_paint_5 rfl) ?_
  refine ex_s (fun _ => ev_iload_n dX12_paint_6 rfl) ?_
  refine ex_s (fun _ => ev_iload_n dX12_paint_7 rfl) ?_
  refine ex_s (fun _ => ev_callV kX12_96 co115 (qX12_doPaint_n hx) dX12_paint_8 rfl (by decide) (by decide) rfl) ?_
  refine ex_s (fun _ => ev_callV kX12_100 co115 (qX12_ends_n (k := 1) rfl (by decide) (by decide)) dX12_paint_11 rfl (by decide) (by decide) rfl) ?_
  exact ⟨_, _, (by exact kb_n (kb_0 h) (k := 1) (by decide)), ev_iret dX12_paint_14 rfl rfl rfl rfl⟩
set_option maxRecDepth 4000 in
theorem gX12_paint_b {G : GX} {w : WS} {A : AS} (h : mX A w) {c : Nat} (hc : c < 64) {y : Int32} (hy : out_ 4 y) (hm : y ≠ -1) : ∃ o w2, (pMo ((2, 0), A) w o w2) ∧ Big G 9 0 mX12_paint [.ref 115, .int (nI c), .int y] w o w2 := by
  refine bx_of (P := pMo ((2, 0), A) w) (by decide +kernel) (Nat.le_of_ble_eq_true rfl) ?_
  show Ex G 9 0 mX12_paint 0 [some (.ref 115), some (.int (nI c)), some (.int y)] [] w _
  refine ex_s (fun _ => ev_aload_n dX12_paint_0 rfl) ?_
  refine ex_s (fun _ => ev_callV kX12_93 co115 qX12_keep dX12_paint_1 rfl (by decide) (by decide) rfl) ?_
  refine ex_s (fun _ => ev_aload_n dX12_paint_4 rfl) ?_
  refine ex_s (fun _ => ev_aload_n dX12_paint_5 rfl) ?_
  refine ex_s (fun _ => ev_iload_n dX12_paint_6 rfl) ?_
  refine ex_s (fun _ => ev_iload_n dX12_paint_7 rfl) ?_
  refine ex_s (fun _ => ev_callV kX12_96 co115 (qX12_doPaint_m hc hy hm) dX12_paint_8 rfl (by decide) (by decide) rfl) ?_
  refine ex_s (fun _ => ev_callV kX12_100 co115 (qX12_ends_n (k := 2) rfl (by decide) (by decide)) dX12_paint_11 rfl (by decide) (by decide) rfl) ?_
  exact ⟨_, _, (by exact kb_n (kb_0 h) (k := 2) (by decide)), ev_iret dX12_paint_14 rfl rfl rfl rfl⟩
set_option maxRecDepth 4000 in
theorem gX12_paint_y {G : GX} {w : WS} {A : AS} (h : mX A w) {c : Nat} (hc : c < 64) {v0 : Int32} (hv0 : r5 v0) : ∃ o w2, (pMo (spCh A 3 (.inl (c, v0))) w o w2) ∧ Big G 9 0 mX12_paint [.ref 115, .int (nI c), .int v0] w o w2 := by
  refine bx_of (P := pMo (spCh A 3 (.inl (c, v0))) w) (by decide +kernel) (Nat.le_of_ble_eq_true rfl) ?_
  show Ex G 9 0 mX12_paint 0 [some (.ref 115), some (.int (nI c)), some (.int v0)] [] w _
  refine ex_s (fun _ => ev_aload_n dX12_paint_0 rfl) ?_
  refine ex_s (fun _ => ev_callV kX12_93 co115 qX12_keep dX12_paint_1 rfl (by decide) (by decide) rfl) ?_
  refine ex_s (fun _ => ev_aload_n dX12_paint_4 rfl) ?_
  refine ex_s (fun _ => ev_aload_n dX12_paint_5 rfl) ?_
  refine ex_s (fun _ => ev_iload_n dX12_paint_6 rfl) ?_
  refine ex_s (fun _ => ev_iload_n dX12_paint_7 rfl) ?_
  have hk := kb_0 h
  obtain ⟨o3, w3, hp3, hB3⟩ := qX12_doPaint (G := G) hk.1.1 hc hv0
  obtain ⟨v, rfl, hv⟩ := id hp3.1
  by_cases hg : grC (aS A) (.inl (c, v0)) = 0
  · obtain ⟨y1, y2, y3⟩ := kb_y hk hp3 hg
    obtain rfl := hv hg
    refine ex_s (fun _ => ev_callV kX12_96 co115 hB3 dX12_paint_8 rfl (by decide) (by decide) rfl) ?_
    refine ex_s (fun _ => ev_callV kX12_100 co115 (qX12_ends_y y2 y3 h.2.2.1.2.1) dX12_paint_11 rfl (by decide) (by decide) rfl) ?_
    exact ⟨_, _, (by exact y1), ev_iret dX12_paint_14 rfl rfl rfl rfl⟩
  · obtain ⟨n1, n2⟩ := kb_r hk hp3 hg (by decide)
    refine ex_s (fun _ => ev_callV kX12_96 co115 hB3 dX12_paint_8 rfl (by decide) (by decide) rfl) ?_
    refine ex_s (fun _ => ev_callV kX12_100 co115 (qX12_ends_n (k := 3) n2 (by decide) (by decide)) dX12_paint_11 rfl (by decide) (by decide) rfl) ?_
    exact ⟨_, _, (by exact n1), ev_iret dX12_paint_14 rfl rfl rfl rfl⟩
theorem gX12_paint {G : GX} {w : WS} {A : AS} (h : mX A w) (x y : Int32) : ∃ o w2, pMo (spPaint A x y) w o w2 ∧ Big G 9 0 mX12_paint [.ref 115, .int x, .int y] w o w2 := by
  unfold spPaint
  rcases ixN_or 64 (by decide) x with ⟨h1, e1⟩ | ⟨c, h1, rfl, e1⟩
  · rw [e1]; exact gX12_paint_n h h1 y
  · rw [e1]
    dsimp only
    rcases ixN_or 4 (by decide) y with ⟨h2, e2⟩ | ⟨r, h2, e3, e2⟩
    · rw [e2]
      by_cases e : y = -1
      · rw [if_pos (Or.inl e)]; exact gX12_paint_y h h1 (Or.inl e)
      · rw [if_neg (fun q => q.elim e (fun z => by cases z))]; exact gX12_paint_b h h1 h2 e
    · rw [e2, if_pos (Or.inr (show (some r).isSome = true from rfl))]; exact gX12_paint_y h h1 (Or.inr ⟨r, h2, e3⟩)
set_option maxRecDepth 4000 in
theorem gX12_shave_n {G : GX} {w : WS} {A : AS} (h : mX A w) {x : Int32} (hx : out_ 64 x) (y : Int32) : ∃ o w2, (pMo ((1, 0), A) w o w2) ∧ Big G 9 0 mX12_shave [.ref 115, .int x, .int y] w o w2 := by
  refine bx_of (P := pMo ((1, 0), A) w) (by decide +kernel) (Nat.le_of_ble_eq_true rfl) ?_
  show Ex G 9 0 mX12_shave 0 [some (.ref 115), some (.int x), some (.int y)] [] w _
  refine ex_s (fun _ => ev_aload_n dX12_shave_0 rfl) ?_
  refine ex_s (fun _ => ev_callV kX12_93 co115 qX12_keep dX12_shave_1 rfl (by decide) (by decide) rfl) ?_
  refine ex_s (fun _ => ev_aload_n dX12_shave_4 rfl) ?_
  refine ex_s (fun _ => ev_aload_n dX12_shave_5 rfl) ?_
  refine ex_s (fun _ => ev_iload_n dX12_shave_6 rfl) ?_
  refine ex_s (fun _ => ev_iload_n dX12_shave_7 rfl) ?_
  refine ex_s (fun _ => ev_callV kX12_119 co115 (qX12_doShave_n hx) dX12_shave_8 rfl (by decide) (by decide) rfl) ?_
  refine ex_s (fun _ => ev_callV kX12_100 co115 (qX12_ends_n (k := 1) rfl (by decide) (by decide)) dX12_shave_11 rfl (by decide) (by decide) rfl) ?_
  exact ⟨_, _, (by exact kb_n (kb_0 h) (k := 1) (by decide)), ev_iret dX12_shave_14 rfl rfl rfl rfl⟩
set_option maxRecDepth 4000 in
theorem gX12_shave_m {G : GX} {w : WS} {A : AS} (h : mX A w) {c : Nat} (hc : c < 64) {y : Int32} (hy : out_ 4 y) : ∃ o w2, (pMo ((1, 0), A) w o w2) ∧ Big G 9 0 mX12_shave [.ref 115, .int (nI c), .int y] w o w2 := by
  refine bx_of (P := pMo ((1, 0), A) w) (by decide +kernel) (Nat.le_of_ble_eq_true rfl) ?_
  show Ex G 9 0 mX12_shave 0 [some (.ref 115), some (.int (nI c)), some (.int y)] [] w _
  refine ex_s (fun _ => ev_aload_n dX12_shave_0 rfl) ?_
  refine ex_s (fun _ => ev_callV kX12_93 co115 qX12_keep dX12_shave_1 rfl (by decide) (by decide) rfl) ?_
  refine ex_s (fun _ => ev_aload_n dX12_shave_4 rfl) ?_
  refine ex_s (fun _ => ev_aload_n dX12_shave_5 rfl) ?_
  refine ex_s (fun _ => ev_iload_n dX12_shave_6 rfl) ?_
  refine ex_s (fun _ => ev_iload_n dX12_shave_7 rfl) ?_
  refine ex_s (fun _ => ev_callV kX12_119 co115 (qX12_doShave_m hc hy) dX12_shave_8 rfl (by decide) (by decide) rfl) ?_
  refine ex_s (fun _ => ev_callV kX12_100 co115 (qX12_ends_n (k := 1) rfl (by decide) (by decide)) dX12_shave_11 rfl (by decide) (by decide) rfl) ?_
  exact ⟨_, _, (by exact kb_n (kb_0 h) (k := 1) (by decide)), ev_iret dX12_shave_14 rfl rfl rfl rfl⟩
set_option maxRecDepth 4000 in
theorem gX12_shave_y {G : GX} {w : WS} {A : AS} (h : mX A w) {c r : Nat} (hc : c < 64) (hr : r < 4) : ∃ o w2, (pMo (spCh A 2 (.inr (.inl (c, r)))) w o w2) ∧ Big G 9 0 mX12_shave [.ref 115, .int (nI c), .int (nI r)] w o w2 := by
  refine bx_of (P := pMo (spCh A 2 (.inr (.inl (c, r)))) w) (by decide +kernel) (Nat.le_of_ble_eq_true rfl) ?_
  show Ex G 9 0 mX12_shave 0 [some (.ref 115), some (.int (nI c)), some (.int (nI r))] [] w _
  refine ex_s (fun _ => ev_aload_n dX12_shave_0 rfl) ?_
  refine ex_s (fun _ => ev_callV kX12_93 co115 qX12_keep dX12_shave_1 rfl (by decide) (by decide) rfl) ?_
  refine ex_s (fun _ => ev_aload_n dX12_shave_4 rfl) ?_
  refine ex_s (fun _ => ev_aload_n dX12_shave_5 rfl) ?_
  refine ex_s (fun _ => ev_iload_n dX12_shave_6 rfl) ?_
  refine ex_s (fun _ => ev_iload_n dX12_shave_7 rfl) ?_
  have hk := kb_0 h
  obtain ⟨o3, w3, hp3, hB3⟩ := qX12_doShave (G := G) hk.1.1 hc hr
  obtain ⟨v, rfl, hv⟩ := id hp3.1
  by_cases hg : grC (aS A) (.inr (.inl (c, r))) = 0
  · obtain ⟨y1, y2, y3⟩ := kb_y hk hp3 hg
    obtain rfl := hv hg
    refine ex_s (fun _ => ev_callV kX12_119 co115 hB3 dX12_shave_8 rfl (by decide) (by decide) rfl) ?_
    refine ex_s (fun _ => ev_callV kX12_100 co115 (qX12_ends_y y2 y3 h.2.2.1.2.1) dX12_shave_11 rfl (by decide) (by decide) rfl) ?_
    exact ⟨_, _, (by exact y1), ev_iret dX12_shave_14 rfl rfl rfl rfl⟩
  · obtain ⟨n1, n2⟩ := kb_r hk hp3 hg (by decide)
    refine ex_s (fun _ => ev_callV kX12_119 co115 hB3 dX12_shave_8 rfl (by decide) (by decide) rfl) ?_
    refine ex_s (fun _ => ev_callV kX12_100 co115 (qX12_ends_n (k := 2) n2 (by decide) (by decide)) dX12_shave_11 rfl (by decide) (by decide) rfl) ?_
    exact ⟨_, _, (by exact n1), ev_iret dX12_shave_14 rfl rfl rfl rfl⟩
theorem gX12_shave {G : GX} {w : WS} {A : AS} (h : mX A w) (x y : Int32) : ∃ o w2, pMo (spShave A x y) w o w2 ∧ Big G 9 0 mX12_shave [.ref 115, .int x, .int y] w o w2 := by
  unfold spShave
  rcases ixN_or 64 (by decide) x with ⟨h1, e1⟩ | ⟨c, h1, rfl, e1⟩
  · rw [e1]; exact gX12_shave_n h h1 y
  · rw [e1]
    dsimp only
    rcases ixN_or 4 (by decide) y with ⟨h2, e2⟩ | ⟨r, h2, rfl, e2⟩
    · rw [e2]; exact gX12_shave_m h h1 h2
    · rw [e2]
      exact gX12_shave_y h h1 h2
set_option maxRecDepth 4000 in
theorem gX12_scale_n {G : GX} {w : WS} {A : AS} (h : mX A w) {x : Int32} (hx : x < nI 1 ∨ nI 9 < x) : ∃ o w2, (pMo ((1, 0), A) w o w2) ∧ Big G 9 0 mX12_scale [.ref 115, .int x] w o w2 := by
  refine bx_of (P := pMo ((1, 0), A) w) (by decide +kernel) (Nat.le_of_ble_eq_true rfl) ?_
  show Ex G 9 0 mX12_scale 0 [some (.ref 115), some (.int x)] [] w _
  refine ex_s (fun _ => ev_aload_n dX12_scale_0 rfl) ?_
  refine ex_s (fun _ => ev_callV kX12_93 co115 qX12_keep dX12_scale_1 rfl (by decide) (by decide) rfl) ?_
  refine ex_s (fun _ => ev_aload_n dX12_scale_4 rfl) ?_
  refine ex_s (fun _ => ev_aload_n dX12_scale_5 rfl) ?_
  refine ex_s (fun _ => ev_iload_n dX12_scale_6 rfl) ?_
  refine ex_s (fun _ => ev_callV kX12_122 co115 (qX12_doScale_n (kb_0 h).1.1 hx) dX12_scale_7 rfl (by decide) (by decide) rfl) ?_
  refine ex_s (fun _ => ev_callV kX12_100 co115 (qX12_ends_n (k := 1) rfl (by decide) (by decide)) dX12_scale_10 rfl (by decide) (by decide) rfl) ?_
  exact ⟨_, _, (by exact kb_n (kb_0 h) (k := 1) (by decide)), ev_iret dX12_scale_13 rfl rfl rfl rfl⟩
set_option maxRecDepth 4000 in
theorem gX12_scale_y {G : GX} {w : WS} {A : AS} (h : mX A w) {m : Nat} (h1 : 1 ≤ m) (h9 : m ≤ 9) : ∃ o w2, (pMo (spCh A 2 (.inr (.inr (.inl m)))) w o w2) ∧ Big G 9 0 mX12_scale [.ref 115, .int (nI m)] w o w2 := by
  refine bx_of (P := pMo (spCh A 2 (.inr (.inr (.inl m)))) w) (by decide +kernel) (Nat.le_of_ble_eq_true rfl) ?_
  show Ex G 9 0 mX12_scale 0 [some (.ref 115), some (.int (nI m))] [] w _
  refine ex_s (fun _ => ev_aload_n dX12_scale_0 rfl) ?_
  refine ex_s (fun _ => ev_callV kX12_93 co115 qX12_keep dX12_scale_1 rfl (by decide) (by decide) rfl) ?_
  refine ex_s (fun _ => ev_aload_n dX12_scale_4 rfl) ?_
  refine ex_s (fun _ => ev_aload_n dX12_scale_5 rfl) ?_
  refine ex_s (fun _ => ev_iload_n dX12_scale_6 rfl) ?_
  have hk := kb_0 h
  obtain ⟨o3, w3, hp3, hB3⟩ := qX12_doScale (G := G) hk.1.1 h1 h9
  obtain ⟨v, rfl, hv⟩ := id hp3.1
  by_cases hg : grC (aS A) (.inr (.inr (.inl m))) = 0
  · obtain ⟨y1, y2, y3⟩ := kb_y hk hp3 hg
    obtain rfl := hv hg
    refine ex_s (fun _ => ev_callV kX12_122 co115 hB3 dX12_scale_7 rfl (by decide) (by decide) rfl) ?_
    refine ex_s (fun _ => ev_callV kX12_100 co115 (qX12_ends_y y2 y3 h.2.2.1.2.1) dX12_scale_10 rfl (by decide) (by decide) rfl) ?_
    exact ⟨_, _, (by exact y1), ev_iret dX12_scale_13 rfl rfl rfl rfl⟩
  · obtain ⟨n1, n2⟩ := kb_r hk hp3 hg (by decide)
    refine ex_s (fun _ => ev_callV kX12_122 co115 hB3 dX12_scale_7 rfl (by decide) (by decide) rfl) ?_
    refine ex_s (fun _ => ev_callV kX12_100 co115 (qX12_ends_n (k := 2) n2 (by decide) (by decide)) dX12_scale_10 rfl (by decide) (by decide) rfl) ?_
    exact ⟨_, _, (by exact n1), ev_iret dX12_scale_13 rfl rfl rfl rfl⟩
theorem gX12_scale {G : GX} {w : WS} {A : AS} (h : mX A w) (x : Int32) : ∃ o w2, pMo (spScale A x) w o w2 ∧ Big G 9 0 mX12_scale [.ref 115, .int x] w o w2 := by
  unfold spScale
  rcases ixN_or 10 (by decide) x with ⟨h1, e1⟩ | ⟨m, h1, rfl, e1⟩
  · rw [e1]
    exact gX12_scale_n h (h1.elim (fun q => Or.inl (Int32.lt_trans q (by decide))) (fun q => Or.inr (nI_lt10 (by decide) q)))
  · rw [e1]
    dsimp only
    by_cases e : m = 0
    · rw [if_pos e, e]; exact gX12_scale_n h (Or.inl (by decide))
    · rw [if_neg e]; exact gX12_scale_y h (by omega) (by omega)
set_option maxRecDepth 4000 in
theorem gX12_drop_n {G : GX} {w : WS} {A : AS} (h : mX A w) {x : Int32} (hx : out_ (nR (aS A)) x) : ∃ o w2, (pMo ((1, 0), A) w o w2) ∧ Big G 9 0 mX12_drop [.ref 115, .int x] w o w2 := by
  refine bx_of (P := pMo ((1, 0), A) w) (by decide +kernel) (Nat.le_of_ble_eq_true rfl) ?_
  show Ex G 9 0 mX12_drop 0 [some (.ref 115), some (.int x)] [] w _
  refine ex_s (fun _ => ev_aload_n dX12_drop_0 rfl) ?_
  refine ex_s (fun _ => ev_callV kX12_93 co115 qX12_keep dX12_drop_1 rfl (by decide) (by decide) rfl) ?_
  refine ex_s (fun _ => ev_aload_n dX12_drop_4 rfl) ?_
  refine ex_s (fun _ => ev_aload_n dX12_drop_5 rfl) ?_
  refine ex_s (fun _ => ev_iload_n dX12_drop_6 rfl) ?_
  refine ex_s (fun _ => ev_callV kX12_144 co115 (qX12_doDrop_n (kb_0 h).1.1 hx) dX12_drop_7 rfl (by decide) (by decide) rfl) ?_
  refine ex_s (fun _ => ev_callV kX12_100 co115 (qX12_ends_n (k := 1) rfl (by decide) (by decide)) dX12_drop_10 rfl (by decide) (by decide) rfl) ?_
  exact ⟨_, _, (by exact kb_n (kb_0 h) (k := 1) (by decide)), ev_iret dX12_drop_13 rfl rfl rfl rfl⟩
set_option maxRecDepth 4000 in
theorem gX12_drop_y {G : GX} {w : WS} {A : AS} (h : mX A w) {i : Nat} (hi : i < nR (aS A)) : ∃ o w2, (pMo (spCh A 9 (.inr (.inr (.inr (.inr (.inl i)))))) w o w2) ∧ Big G 9 0 mX12_drop [.ref 115, .int (nI i)] w o w2 := by
  refine bx_of (P := pMo (spCh A 9 (.inr (.inr (.inr (.inr (.inl i)))))) w) (by decide +kernel) (Nat.le_of_ble_eq_true rfl) ?_
  show Ex G 9 0 mX12_drop 0 [some (.ref 115), some (.int (nI i))] [] w _
  refine ex_s (fun _ => ev_aload_n dX12_drop_0 rfl) ?_
  refine ex_s (fun _ => ev_callV kX12_93 co115 qX12_keep dX12_drop_1 rfl (by decide) (by decide) rfl) ?_
  refine ex_s (fun _ => ev_aload_n dX12_drop_4 rfl) ?_
  refine ex_s (fun _ => ev_aload_n dX12_drop_5 rfl) ?_
  refine ex_s (fun _ => ev_iload_n dX12_drop_6 rfl) ?_
  have hk := kb_0 h
  obtain ⟨o3, w3, hp3, hB3⟩ := qX12_doDrop (G := G) hk.1.1 hi
  obtain ⟨v, rfl, hv⟩ := id hp3.1
  by_cases hg : grC (aS A) (.inr (.inr (.inr (.inr (.inl i))))) = 0
  · obtain ⟨y1, y2, y3⟩ := kb_y hk hp3 hg
    obtain rfl := hv hg
    refine ex_s (fun _ => ev_callV kX12_144 co115 hB3 dX12_drop_7 rfl (by decide) (by decide) rfl) ?_
    refine ex_s (fun _ => ev_callV kX12_100 co115 (qX12_ends_y y2 y3 h.2.2.1.2.1) dX12_drop_10 rfl (by decide) (by decide) rfl) ?_
    exact ⟨_, _, (by exact y1), ev_iret dX12_drop_13 rfl rfl rfl rfl⟩
  · obtain ⟨n1, n2⟩ := kb_r hk hp3 hg (by decide)
    refine ex_s (fun _ => ev_callV kX12_144 co115 hB3 dX12_drop_7 rfl (by decide) (by decide) rfl) ?_
    refine ex_s (fun _ => ev_callV kX12_100 co115 (qX12_ends_n (k := 9) n2 (by decide) (by decide)) dX12_drop_10 rfl (by decide) (by decide) rfl) ?_
    exact ⟨_, _, (by exact n1), ev_iret dX12_drop_13 rfl rfl rfl rfl⟩
theorem gX12_drop {G : GX} {w : WS} {A : AS} (h : mX A w) (x : Int32) : ∃ o w2, pMo (spDrop A x) w o w2 ∧ Big G 9 0 mX12_drop [.ref 115, .int x] w o w2 := by
  unfold spDrop
  rcases ixN_or (nR (aS A)) (by have h5 := h.1.2.2.1.1; have h6 := h.1.2.2.2.1.1; omega) x with ⟨h1, e1⟩ | ⟨i, h1, rfl, e1⟩
  · rw [e1]; exact gX12_drop_n h h1
  · rw [e1]; exact gX12_drop_y h h1
set_option maxRecDepth 4000 in
theorem gX12_scare_n {G : GX} {w : WS} {A : AS} (h : mX A w) {x : Int32} (hx : out_ (nD (aS A)) x) : ∃ o w2, (pMo ((1, 0), A) w o w2) ∧ Big G 9 0 mX12_scare [.ref 115, .int x] w o w2 := by
  refine bx_of (P := pMo ((1, 0), A) w) (by decide +kernel) (Nat.le_of_ble_eq_true rfl) ?_
  show Ex G 9 0 mX12_scare 0 [some (.ref 115), some (.int x)] [] w _
  refine ex_s (fun _ => ev_aload_n dX12_scare_0 rfl) ?_
  refine ex_s (fun _ => ev_callV kX12_93 co115 qX12_keep dX12_scare_1 rfl (by decide) (by decide) rfl) ?_
  refine ex_s (fun _ => ev_aload_n dX12_scare_4 rfl) ?_
  refine ex_s (fun _ => ev_aload_n dX12_scare_5 rfl) ?_
  refine ex_s (fun _ => ev_iload_n dX12_scare_6 rfl) ?_
  refine ex_s (fun _ => ev_callV kX12_153 co115 (qX12_doScare_n (kb_0 h).1.1 hx) dX12_scare_7 rfl (by decide) (by decide) rfl) ?_
  refine ex_s (fun _ => ev_callV kX12_100 co115 (qX12_ends_n (k := 1) rfl (by decide) (by decide)) dX12_scare_10 rfl (by decide) (by decide) rfl) ?_
  exact ⟨_, _, (by exact kb_n (kb_0 h) (k := 1) (by decide)), ev_iret dX12_scare_13 rfl rfl rfl rfl⟩
set_option maxRecDepth 4000 in
theorem gX12_scare_y {G : GX} {w : WS} {A : AS} (h : mX A w) {i : Nat} (hi : i < nD (aS A)) : ∃ o w2, (pMo (spCh A 9 (.inr (.inr (.inr (.inr (.inr (.inr i))))))) w o w2) ∧ Big G 9 0 mX12_scare [.ref 115, .int (nI i)] w o w2 := by
  refine bx_of (P := pMo (spCh A 9 (.inr (.inr (.inr (.inr (.inr (.inr i))))))) w) (by decide +kernel) (Nat.le_of_ble_eq_true rfl) ?_
  show Ex G 9 0 mX12_scare 0 [some (.ref 115), some (.int (nI i))] [] w _
  refine ex_s (fun _ => ev_aload_n dX12_scare_0 rfl) ?_
  refine ex_s (fun _ => ev_callV kX12_93 co115 qX12_keep dX12_scare_1 rfl (by decide) (by decide) rfl) ?_
  refine ex_s (fun _ => ev_aload_n dX12_scare_4 rfl) ?_
  refine ex_s (fun _ => ev_aload_n dX12_scare_5 rfl) ?_
  refine ex_s (fun _ => ev_iload_n dX12_scare_6 rfl) ?_
  have hk := kb_0 h
  obtain ⟨o3, w3, hp3, hB3⟩ := qX12_doScare (G := G) hk.1.1 hi
  obtain ⟨v, rfl, hv⟩ := id hp3.1
  by_cases hg : grC (aS A) (.inr (.inr (.inr (.inr (.inr (.inr i)))))) = 0
  · obtain ⟨y1, y2, y3⟩ := kb_y hk hp3 hg
    obtain rfl := hv hg
    refine ex_s (fun _ => ev_callV kX12_153 co115 hB3 dX12_scare_7 rfl (by decide) (by decide) rfl) ?_
    refine ex_s (fun _ => ev_callV kX12_100 co115 (qX12_ends_y y2 y3 h.2.2.1.2.1) dX12_scare_10 rfl (by decide) (by decide) rfl) ?_
    exact ⟨_, _, (by exact y1), ev_iret dX12_scare_13 rfl rfl rfl rfl⟩
  · obtain ⟨n1, n2⟩ := kb_r hk hp3 hg (by decide)
    refine ex_s (fun _ => ev_callV kX12_153 co115 hB3 dX12_scare_7 rfl (by decide) (by decide) rfl) ?_
    refine ex_s (fun _ => ev_callV kX12_100 co115 (qX12_ends_n (k := 9) n2 (by decide) (by decide)) dX12_scare_10 rfl (by decide) (by decide) rfl) ?_
    exact ⟨_, _, (by exact n1), ev_iret dX12_scare_13 rfl rfl rfl rfl⟩
theorem gX12_scare {G : GX} {w : WS} {A : AS} (h : mX A w) (x : Int32) : ∃ o w2, pMo (spScare A x) w o w2 ∧ Big G 9 0 mX12_scare [.ref 115, .int x] w o w2 := by
  unfold spScare
  rcases ixN_or (nD (aS A)) (by have h5 := h.1.2.2.1.1; have h6 := h.1.2.2.2.1.1; omega) x with ⟨h1, e1⟩ | ⟨i, h1, rfl, e1⟩
  · rw [e1]; exact gX12_scare_n h h1
  · rw [e1]; exact gX12_scare_y h h1
set_option maxRecDepth 4000 in
theorem gX12_dragon_n {G : GX} {w : WS} {A : AS} (h : mX A w) {x : Int32} (hx : out_ 64 x) (y : Int32) : ∃ o w2, (pMo ((1, 0), A) w o w2) ∧ Big G 9 0 mX12_dragon [.ref 115, .int x, .int y] w o w2 := by
  refine bx_of (P := pMo ((1, 0), A) w) (by decide +kernel) (Nat.le_of_ble_eq_true rfl) ?_
  show Ex G 9 0 mX12_dragon 0 [some (.ref 115), some (.int x), some (.int y)] [] w _
  refine ex_s (fun _ => ev_aload_n dX12_dragon_0 rfl) ?_
  refine ex_s (fun _ => ev_callV kX12_93 co115 qX12_keep dX12_dragon_1 rfl (by decide) (by decide) rfl) ?_
  refine ex_s (fun _ => ev_aload_n dX12_dragon_4 rfl) ?_
  refine ex_s (fun _ => ev_aload_n dX12_dragon_5 rfl) ?_
  refine ex_s (fun _ => ev_iload_n dX12_dragon_6 rfl) ?_
  refine ex_s (fun _ => ev_iload_n dX12_dragon_7 rfl) ?_
  refine ex_s (fun _ => ev_callV kX12_147 co115 (qX12_doDragon_n (kb_0 h).1.1 hx) dX12_dragon_8 rfl (by decide) (by decide) rfl) ?_
  refine ex_s (fun _ => ev_callV kX12_100 co115 (qX12_ends_n (k := 1) rfl (by decide) (by decide)) dX12_dragon_11 rfl (by decide) (by decide) rfl) ?_
  exact ⟨_, _, (by exact kb_n (kb_0 h) (k := 1) (by decide)), ev_iret dX12_dragon_14 rfl rfl rfl rfl⟩
set_option maxRecDepth 4000 in
theorem gX12_dragon_q {G : GX} {w : WS} {A : AS} (h : mX A w) {c : Nat} (hc : c < 64) {y : Int32} (hy : y < nI 1 ∨ nI 50 < y) : ∃ o w2, (pMo ((2, 0), A) w o w2) ∧ Big G 9 0 mX12_dragon [.ref 115, .int (nI c), .int y] w o w2 := by
  refine bx_of (P := pMo ((2, 0), A) w) (by decide +kernel) (Nat.le_of_ble_eq_true rfl) ?_
  show Ex G 9 0 mX12_dragon 0 [some (.ref 115), some (.int (nI c)), some (.int y)] [] w _
  refine ex_s (fun _ => ev_aload_n dX12_dragon_0 rfl) ?_
  refine ex_s (fun _ => ev_callV kX12_93 co115 qX12_keep dX12_dragon_1 rfl (by decide) (by decide) rfl) ?_
  refine ex_s (fun _ => ev_aload_n dX12_dragon_4 rfl) ?_
  refine ex_s (fun _ => ev_aload_n dX12_dragon_5 rfl) ?_
  refine ex_s (fun _ => ev_iload_n dX12_dragon_6 rfl) ?_
  refine ex_s (fun _ => ev_iload_n dX12_dragon_7 rfl) ?_
  refine ex_s (fun _ => ev_callV kX12_147 co115 (qX12_doDragon_m (kb_0 h).1.1 hc hy) dX12_dragon_8 rfl (by decide) (by decide) rfl) ?_
  refine ex_s (fun _ => ev_callV kX12_100 co115 (qX12_ends_n (k := 2) rfl (by decide) (by decide)) dX12_dragon_11 rfl (by decide) (by decide) rfl) ?_
  exact ⟨_, _, (by exact kb_n (kb_0 h) (k := 2) (by decide)), ev_iret dX12_dragon_14 rfl rfl rfl rfl⟩
theorem gX12_dragon_m {G : GX} {w : WS} {A : AS} (h : mX A w) {c : Nat} (hc : c < 64) {y : Int32} (hy : out_ 51 y) : ∃ o w2, pMo ((2, 0), A) w o w2 ∧ Big G 9 0 mX12_dragon [.ref 115, .int (nI c), .int y] w o w2 := gX12_dragon_q h hc (hy.elim (fun q => Or.inl (Int32.lt_trans q (by decide))) (fun q => Or.inr (nI_lt10 (by decide) q)))
set_option maxRecDepth 4000 in
theorem gX12_dragon_y {G : GX} {w : WS} {A : AS} (h : mX A w) {c p : Nat} (hc : c < 64) (h1 : 1 ≤ p) (h50 : p ≤ 50) : ∃ o w2, (pMo (spCh A 3 (.inr (.inr (.inr (.inr (.inr (.inl (c, p)))))))) w o w2) ∧ Big G 9 0 mX12_dragon [.ref 115, .int (nI c), .int (nI p)] w o w2 := by
  refine bx_of (P := pMo (spCh A 3 (.inr (.inr (.inr (.inr (.inr (.inl (c, p)))))))) w) (by decide +kernel) (Nat.le_of_ble_eq_true rfl) ?_
  show Ex G 9 0 mX12_dragon 0 [some (.ref 115), some (.int (nI c)), some (.int (nI p))] [] w _
  refine ex_s (fun _ => ev_aload_n dX12_dragon_0 rfl) ?_
  refine ex_s (fun _ => ev_callV kX12_93 co115 qX12_keep dX12_dragon_1 rfl (by decide) (by decide) rfl) ?_
  refine ex_s (fun _ => ev_aload_n dX12_dragon_4 rfl) ?_
  refine ex_s (fun _ => ev_aload_n dX12_dragon_5 rfl) ?_
  refine ex_s (fun _ => ev_iload_n dX12_dragon_6 rfl) ?_
  refine ex_s (fun _ => ev_iload_n dX12_dragon_7 rfl) ?_
  have hk := kb_0 h
  obtain ⟨o3, w3, hp3, hB3⟩ := qX12_doDragon (G := G) hk.1.1 hc h1 h50
  obtain ⟨v, rfl, hv⟩ := id hp3.1
  by_cases hg : grC (aS A) (.inr (.inr (.inr (.inr (.inr (.inl (c, p))))))) = 0
  · obtain ⟨y1, y2, y3⟩ := kb_y hk hp3 hg
    obtain rfl := hv hg
    refine ex_s (fun _ => ev_callV kX12_147 co115 hB3 dX12_dragon_8 rfl (by decide) (by decide) rfl) ?_
    refine ex_s (fun _ => ev_callV kX12_100 co115 (qX12_ends_y y2 y3 h.2.2.1.2.1) dX12_dragon_11 rfl (by decide) (by decide) rfl) ?_
    exact ⟨_, _, (by exact y1), ev_iret dX12_dragon_14 rfl rfl rfl rfl⟩
  · obtain ⟨n1, n2⟩ := kb_r hk hp3 hg (by decide)
    refine ex_s (fun _ => ev_callV kX12_147 co115 hB3 dX12_dragon_8 rfl (by decide) (by decide) rfl) ?_
    refine ex_s (fun _ => ev_callV kX12_100 co115 (qX12_ends_n (k := 3) n2 (by decide) (by decide)) dX12_dragon_11 rfl (by decide) (by decide) rfl) ?_
    exact ⟨_, _, (by exact n1), ev_iret dX12_dragon_14 rfl rfl rfl rfl⟩
theorem gX12_dragon {G : GX} {w : WS} {A : AS} (h : mX A w) (x y : Int32) : ∃ o w2, pMo (spDragon A x y) w o w2 ∧ Big G 9 0 mX12_dragon [.ref 115, .int x, .int y] w o w2 := by
  unfold spDragon
  rcases ixN_or 64 (by decide) x with ⟨h1, e1⟩ | ⟨c, h1, rfl, e1⟩
  · rw [e1]; exact gX12_dragon_n h h1 y
  · rw [e1]
    dsimp only
    rcases ixN_or 51 (by decide) y with ⟨h2, e2⟩ | ⟨r, h2, rfl, e2⟩
    · rw [e2]; exact gX12_dragon_m h h1 h2
    · rw [e2]
      dsimp only
      by_cases e : r = 0
      · rw [if_pos e, e]; exact gX12_dragon_q h h1 (Or.inl (by decide))
      · rw [if_neg e]; exact gX12_dragon_y h h1 (by omega) (by omega)
theorem kb_c {A : AS} {w : WS} (h : mX A w) : KB (aC A) w (cs_ (cs_ (wT w 0) 117 (va_cpy (w.1 116) (w.1 117) 0 0 158)) 115 (upd ((cs_ (wT w 0) 117 (va_cpy (w.1 116) (w.1 117) 0 0 158)).1 115) 13 (nI 0))) := by
  obtain ⟨g1, g2, g3, g4⟩ := kb_0 h
  obtain ⟨f1, f2, f3, f4, f5, f6, f7, f8⟩ := g1
  exact ⟨⟨mRe f1 rfl, f2, f3, ⟨rfl, Nat.zero_le _, fun i hi => absurd hi (Nat.not_lt_zero _)⟩, f5, f6, f7, f8⟩, g2, g3, frG_tr g4 (frG_cs frG_rf (by decide) _)⟩
set_option maxRecDepth 4000 in
theorem gX12_river_n {G : GX} {w : WS} {A : AS} (h : mX A w) {x : Int32} (hx : out_ 64 x) (y : Int32) : ∃ o w2, (pMo ((1, 0), aC A) w o w2) ∧ Big G 9 0 mX12_river [.ref 115, .int x, .int y] w o w2 := by
  refine bx_of (P := pMo ((1, 0), aC A) w) (by decide +kernel) (Nat.le_of_ble_eq_true rfl) ?_
  show Ex G 9 0 mX12_river 0 [some (.ref 115), some (.int x), some (.int y), none] [] w _
  refine ex_s (fun _ => ev_aload_n dX12_river_0 rfl) ?_
  refine ex_s (fun _ => ev_getI fX12_135 dX12_river_1 (by decide) sh115 rfl) ?_
  refine ex_s (fun _ => ev_top h.2.2.2.1.1) ?_
  refine ex_s (fun _ => ev_ist3 dX12_river_4 (by decide) rfl) ?_
  refine ex_s (fun _ => ev_aload_n dX12_river_5 rfl) ?_
  refine ex_s (fun _ => ev_callV kX12_93 co115 qX12_keep dX12_river_6 rfl (by decide) (by decide) rfl) ?_
  refine ex_s (fun _ => ev_aload_n dX12_river_9 rfl) ?_
  refine ex_s (fun _ => ev_iconst dX12_river_10 ic0) ?_
  refine ex_s (fun _ => ev_put fX12_135 dX12_river_11 rfl rfl (by decide) sh115 rfl) ?_
  refine ex_s (fun _ => ev_w (w' := (cs_ (cs_ (wT w 0) 117 (va_cpy (w.1 116) (w.1 117) 0 0 158)) 115 (upd ((cs_ (wT w 0) 117 (va_cpy (w.1 116) (w.1 117) 0 0 158)).1 115) 13 (nI 0)))) rfl) ?_
  refine ex_s (fun _ => ev_aload_n dX12_river_14 rfl) ?_
  refine ex_s (fun _ => ev_aload_n dX12_river_15 rfl) ?_
  refine ex_s (fun _ => ev_iload_n dX12_river_16 rfl) ?_
  refine ex_s (fun _ => ev_iload_n dX12_river_17 rfl) ?_
  refine ex_s (fun _ => ev_iload_n dX12_river_18 rfl) ?_
  refine ex_s (fun _ => ev_callV kX12_138 co115 (qX12_doRiver_n hx) dX12_river_19 rfl (by decide) (by decide) rfl) ?_
  refine ex_s (fun _ => ev_callV kX12_100 co115 (qX12_ends_n (k := 1) rfl (by decide) (by decide)) dX12_river_22 rfl (by decide) (by decide) rfl) ?_
  exact ⟨_, _, (by exact kb_n (kb_c h) (k := 1) (by decide)), ev_iret dX12_river_25 rfl rfl rfl rfl⟩
set_option maxRecDepth 4000 in
theorem gX12_river_m {G : GX} {w : WS} {A : AS} (h : mX A w) {c : Nat} (hc : c < 64) {y : Int32} (hy : out_ 100 y) : ∃ o w2, (pMo ((2, 0), aC A) w o w2) ∧ Big G 9 0 mX12_river [.ref 115, .int (nI c), .int y] w o w2 := by
  refine bx_of (P := pMo ((2, 0), aC A) w) (by decide +kernel) (Nat.le_of_ble_eq_true rfl) ?_
  show Ex G 9 0 mX12_river 0 [some (.ref 115), some (.int (nI c)), some (.int y), none] [] w _
  refine ex_s (fun _ => ev_aload_n dX12_river_0 rfl) ?_
  refine ex_s (fun _ => ev_getI fX12_135 dX12_river_1 (by decide) sh115 rfl) ?_
  refine ex_s (fun _ => ev_top h.2.2.2.1.1) ?_
  refine ex_s (fun _ => ev_ist3 dX12_river_4 (by decide) rfl) ?_
  refine ex_s (fun _ => ev_aload_n dX12_river_5 rfl) ?_
  refine ex_s (fun _ => ev_callV kX12_93 co115 qX12_keep dX12_river_6 rfl (by decide) (by decide) rfl) ?_
  refine ex_s (fun _ => ev_aload_n dX12_river_9 rfl) ?_
  refine ex_s (fun _ => ev_iconst dX12_river_10 ic0) ?_
  refine ex_s (fun _ => ev_put fX12_135 dX12_river_11 rfl rfl (by decide) sh115 rfl) ?_
  refine ex_s (fun _ => ev_w (w' := (cs_ (cs_ (wT w 0) 117 (va_cpy (w.1 116) (w.1 117) 0 0 158)) 115 (upd ((cs_ (wT w 0) 117 (va_cpy (w.1 116) (w.1 117) 0 0 158)).1 115) 13 (nI 0)))) rfl) ?_
  refine ex_s (fun _ => ev_aload_n dX12_river_14 rfl) ?_
  refine ex_s (fun _ => ev_aload_n dX12_river_15 rfl) ?_
  refine ex_s (fun _ => ev_iload_n dX12_river_16 rfl) ?_
  refine ex_s (fun _ => ev_iload_n dX12_river_17 rfl) ?_
  refine ex_s (fun _ => ev_iload_n dX12_river_18 rfl) ?_
  refine ex_s (fun _ => ev_callV kX12_138 co115 (qX12_doRiver_m hc hy) dX12_river_19 rfl (by decide) (by decide) rfl) ?_
  refine ex_s (fun _ => ev_callV kX12_100 co115 (qX12_ends_n (k := 2) rfl (by decide) (by decide)) dX12_river_22 rfl (by decide) (by decide) rfl) ?_
  exact ⟨_, _, (by exact kb_n (kb_c h) (k := 2) (by decide)), ev_iret dX12_river_25 rfl rfl rfl rfl⟩
set_option maxRecDepth 4000 in
theorem gX12_river_y {G : GX} {w : WS} {A : AS} (h : mX A w) {c r : Nat} (hc : c < 64) (hr : r < 100) : ∃ o w2, (pMo (if 0 < stN (aN A) (aT A) 12 0 ∧ stN (aN A) (aT A) 12 0 = aN A then spCh (aC A) 4 (.inr (.inr (.inr (.inl (c, r, stN (aN A) (aT A) 12 0, stD (aN A) (aT A) 0))))) else ((3, 0), aC A)) w o w2) ∧ Big G 9 0 mX12_river [.ref 115, .int (nI c), .int (nI r)] w o w2 := by
  refine bx_of (P := pMo (if 0 < stN (aN A) (aT A) 12 0 ∧ stN (aN A) (aT A) 12 0 = aN A then spCh (aC A) 4 (.inr (.inr (.inr (.inl (c, r, stN (aN A) (aT A) 12 0, stD (aN A) (aT A) 0))))) else ((3, 0), aC A)) w) (by decide +kernel) (Nat.le_of_ble_eq_true rfl) ?_
  show Ex G 9 0 mX12_river 0 [some (.ref 115), some (.int (nI c)), some (.int (nI r)), none] [] w _
  refine ex_s (fun _ => ev_aload_n dX12_river_0 rfl) ?_
  refine ex_s (fun _ => ev_getI fX12_135 dX12_river_1 (by decide) sh115 rfl) ?_
  refine ex_s (fun _ => ev_top h.2.2.2.1.1) ?_
  refine ex_s (fun _ => ev_ist3 dX12_river_4 (by decide) rfl) ?_
  refine ex_s (fun _ => ev_aload_n dX12_river_5 rfl) ?_
  refine ex_s (fun _ => ev_callV kX12_93 co115 qX12_keep dX12_river_6 rfl (by decide) (by decide) rfl) ?_
  refine ex_s (fun _ => ev_aload_n dX12_river_9 rfl) ?_
  refine ex_s (fun _ => ev_iconst dX12_river_10 ic0) ?_
  refine ex_s (fun _ => ev_put fX12_135 dX12_river_11 rfl rfl (by decide) sh115 rfl) ?_
  refine ex_s (fun _ => ev_w (w' := (cs_ (cs_ (wT w 0) 117 (va_cpy (w.1 116) (w.1 117) 0 0 158)) 115 (upd ((cs_ (wT w 0) 117 (va_cpy (w.1 116) (w.1 117) 0 0 158)).1 115) 13 (nI 0)))) rfl) ?_
  refine ex_s (fun _ => ev_aload_n dX12_river_14 rfl) ?_
  refine ex_s (fun _ => ev_aload_n dX12_river_15 rfl) ?_
  refine ex_s (fun _ => ev_iload_n dX12_river_16 rfl) ?_
  refine ex_s (fun _ => ev_iload_n dX12_river_17 rfl) ?_
  refine ex_s (fun _ => ev_iload_n dX12_river_18 rfl) ?_
  have hk := kb_c h
  have hin := h.2.2.2.1
  obtain ⟨o3, w3, ⟨hp0, hp1⟩, hB3⟩ := qX12_doRiver (G := G) hk.1.1 hin.2.1 (t := aT A) (fun i hi => ⟨(hin.2.2 i hi).1, (hin.2.2 i hi).2.2⟩) hc hr
  cases ha : arS (aN A) (aT A) with
  | true =>
    rw [if_pos ((arS_eq _ _).mp ha)]
    have hp3 := hp1 ha
    obtain ⟨v, rfl, hv⟩ := id hp3.1
    by_cases hg : grC (aS A) (.inr (.inr (.inr (.inl (c, r, stN (aN A) (aT A) 12 0, stD (aN A) (aT A) 0))))) = 0
    · obtain ⟨y1, y2, y3⟩ := kb_y hk hp3 hg
      obtain rfl := hv hg
      refine ex_s (fun _ => ev_callV kX12_138 co115 hB3 dX12_river_19 rfl (by decide) (by decide) rfl) ?_
      refine ex_s (fun _ => ev_callV kX12_100 co115 (qX12_ends_y y2 y3 h.2.2.1.2.1) dX12_river_22 rfl (by decide) (by decide) rfl) ?_
      exact ⟨_, _, (by exact y1), ev_iret dX12_river_25 rfl rfl rfl rfl⟩
    · obtain ⟨n1, n2⟩ := kb_r hk hp3 hg (by decide)
      refine ex_s (fun _ => ev_callV kX12_138 co115 hB3 dX12_river_19 rfl (by decide) (by decide) rfl) ?_
      refine ex_s (fun _ => ev_callV kX12_100 co115 (qX12_ends_n (k := 4) n2 (by decide) (by decide)) dX12_river_22 rfl (by decide) (by decide) rfl) ?_
      exact ⟨_, _, (by exact n1), ev_iret dX12_river_25 rfl rfl rfl rfl⟩
  | false =>
    rw [if_neg (fun z => by rw [(arS_eq _ _).mpr z] at ha; cases ha)]
    obtain ⟨rfl, rfl⟩ := hp0 ha
    refine ex_s (fun _ => ev_callV kX12_138 co115 hB3 dX12_river_19 rfl (by decide) (by decide) rfl) ?_
    refine ex_s (fun _ => ev_callV kX12_100 co115 (qX12_ends_n (k := 3) rfl (by decide) (by decide)) dX12_river_22 rfl (by decide) (by decide) rfl) ?_
    exact ⟨_, _, (by exact kb_n hk (k := 3) (by decide)), ev_iret dX12_river_25 rfl rfl rfl rfl⟩
theorem gX12_river {G : GX} {w : WS} {A : AS} (h : mX A w) (x y : Int32) : ∃ o w2, pMo (spRiver A x y) w o w2 ∧ Big G 9 0 mX12_river [.ref 115, .int x, .int y] w o w2 := by
  unfold spRiver
  rcases ixN_or 64 (by decide) x with ⟨h1, e1⟩ | ⟨c, h1, rfl, e1⟩
  · rw [e1]; exact gX12_river_n h h1 y
  · rw [e1]
    dsimp only
    rcases ixN_or 100 (by decide) y with ⟨h2, e2⟩ | ⟨r, h2, rfl, e2⟩
    · rw [e2]; exact gX12_river_m h h1 h2
    · rw [e2]
      exact gX12_river_y h h1 h2
