/-! the whole memory; the calls of the class -/
abbrev AS : Type := ST × Option ST × List ST × (Nat × (Nat → Nat)) × List Nat × List (Int32 × Int32) × Option Nat
abbrev aS (A : AS) : ST := A.1
abbrev aV (A : AS) : Option ST := A.2.1
abbrev aH (A : AS) : List ST := A.2.2.1
abbrev aN (A : AS) : Nat := A.2.2.2.1.1
abbrev aT (A : AS) : Nat → Nat := A.2.2.2.1.2
abbrev aL (A : AS) : List Nat := A.2.2.2.2.1
abbrev aK (A : AS) : List (Int32 × Int32) := A.2.2.2.2.2.1
abbrev aE (A : AS) : Option Nat := A.2.2.2.2.2.2
def mkA (S : ST) (V : Option ST) (H : List ST) (n : Nat) (t : Nat → Nat) (l : List Nat) (K : List (Int32 × Int32)) (e : Option Nat) : AS := (S, V, H, (n, t), l, K, e)
/-- the class holds A -/
def aX (A : AS) (w : WS) : Prop := cm_ (aS A) w ∧ svA (aV A) w ∧ hA (aH A) w ∧ inA (aN A) (aT A) w ∧ lnA (aL A) w ∧ kA (aK A) w ∧ w.1 0 11 = oI (aE A) ∧ ∀ p, aE A = some p → p ≤ 60
theorem aXG {A : AS} {R : List (Nat × Nat)} {w w2 : WS} (h : aX A w) (hf : frG R w w2) (hs : subG R [(12, 22), (102, 103), (106, 106), (112, 200)] = true) : aX A w2 := by
  obtain ⟨h1, h2, h3, h4, h5, h6, h7, h8⟩ := h
  have hf := frG_mo hf hs
  exact ⟨cmG h1 hf (by decide), svG h2 hf (by decide) (by decide), hG h3 hf (by decide), inG h4 hf (by decide), lnG h5 hf (by decide), kG h6 hf (by decide), by rw [frG_at hf (by decide)]; exact h7, h8⟩
def pF (es : List String) (r : (Nat × Int32) × AS) (w : WS) : OT → WS → Prop := fun o w2 => o = cOut es r.1 ∧ aX r.2 w2 ∧ frG [(0, 114)] w w2
/-- a change, by the exception k if it is refused -/
def spCh (A : AS) (k : Nat) (q : Cmd) : (Nat × Int32) × AS := if grC (aS A) q ≠ 0 then ((k, 0), mkA (aS A) (aV A) (aH A) (aN A) (aT A) (aL A) (kpC (aS A) q) (aE A)) else ((0, crt (aS A) q), mkA (cdo (aS A) q) (aV A) (hPush (aH A) (aS A)) (aN A) (aT A) (aL A) (aK A) (aE A))
theorem ch_y {A : AS} {k : Nat} {q : Cmd} {w w0 w3 : WS} {es : List String} (h : aX A w0) (hf : frG [(0, 114)] w w0) (hg : grC (aS A) q = 0) (k1 : cm_ (cdo (aS A) q) w3) (k2 : hA (hPush (aH A) (aS A)) w3) (k3 : frG [(1, 11), (34, 100)] w0 w3) : pF es (spCh A k q) w (.inl (some (.int (crt (aS A) q)))) w3 := by
  obtain ⟨h1, h2, h3, h4, h5, h6, h7, h8⟩ := h
  unfold spCh
  rw [if_neg (fun z => z hg)]
  exact ⟨rfl, ⟨k1, svG h2 k3 (by decide) (by decide), k2, inG h4 k3 (by decide), lnG h5 k3 (by decide), kG h6 k3 (by decide), by rw [frG_at k3 (by decide)]; exact h7, h8⟩, frG_tr hf (frG_mo k3 (by decide))⟩
theorem ch_n {A : AS} {k : Nat} {q : Cmd} {w w0 w3 : WS} {es : List String} (h : aX A w0) (hf : frG [(0, 114)] w w0) (hg : grC (aS A) q ≠ 0) (k1 : kA (kpC (aS A) q) w3) (k3 : frG [(109, 111)] w0 w3) {o : OT} (ho : o = cOut es (k, 0)) : pF es (spCh A k q) w o w3 := by
  obtain ⟨h1, h2, h3, h4, h5, h6, h7, h8⟩ := h
  unfold spCh
  rw [if_pos hg]
  exact ⟨ho, ⟨cmG h1 k3 (by decide), svG h2 k3 (by decide) (by decide), hG h3 k3 (by decide), inG h4 k3 (by decide), lnG h5 k3 (by decide), k1, by rw [frG_at k3 (by decide)]; exact h7, h8⟩, frG_tr hf (frG_mo k3 (by decide))⟩
theorem aX_S {A : AS} {w : WS} (h : aX A w) : cm_ (aS A) w := h.1
theorem fr_wSet {w : WS} {k c n : Int32} {R : List (Nat × Nat)} (hR : subG [(102, 103)] R = true) : frG R w (wSet w k c n) := frG_mo (R := [(102, 103)]) (frG_cs frG_rf (by decide) _) hR
/-- A without its input -/
def aC (A : AS) : AS := mkA (aS A) (aV A) (aH A) 0 (aT A) (aL A) (aK A) (aE A)
theorem aX_C {A : AS} {w : WS} (h : aX A w) : aX (aC A) (cs_ w 104 (upd (w.1 104) 1 (nI 0))) := by
  obtain ⟨h1, h2, h3, h4, h5, h6, h7, h8⟩ := h
  have hf : frG [(104, 104)] w (cs_ w 104 (upd (w.1 104) 1 (nI 0))) := frG_cs frG_rf (by decide) _
  exact ⟨cmG h1 hf (by decide), svG h2 hf (by decide) (by decide), hG h3 hf (by decide), ⟨rfl, Nat.zero_le _, fun i hi => absurd hi (Nat.not_lt_zero _)⟩, lnG h5 hf (by decide), kG h6 hf (by decide), by rw [frG_at hf (by decide)]; exact h7, h8⟩
theorem ex_s2 {G : GX} {d b b2 : Nat} {M : MT} {pc : Nat} {ls : List (Option Value)} {st : List Value} {w : WS} {pc2 : Nat} {ls2 : List (Option Value)} {st2 : List Value} {w2 : WS} {P : OT → WS → Prop} (f : ∀ Z, Ev G d b2 M pc2 ls2 st2 w2 Z → Ev G d b M pc ls st w Z) (h : Ex G d b2 M pc2 ls2 st2 w2 P) : Ex G d b M pc ls st w P := by
  obtain ⟨o, w3, hp, hE⟩ := h
  exact ⟨o, w3, hp, f _ hE⟩
def spPaint (A : AS) (x y : Int32) : (Nat × Int32) × AS := match ixN 64 x with
  | none => ((1, 0), A)
  | some c => if y = -1 ∨ (ixN 4 y).isSome = true then spCh A 3 (.inl (c, y)) else ((2, 0), A)
set_option maxRecDepth 4000 in
theorem fX11_paint_n {G : GX} {w : WS} {A : AS} (h : aX A w) {x : Int32} (hx : out_ 64 x) (y : Int32) : ∃ o w2, (pF ["java/lang/IndexOutOfBoundsException", "java/lang/IllegalArgumentException", "java/lang/UnsupportedOperationException"] (((1, 0), A)) w o w2) ∧ Big G 8 1 mX11_paint [.ref 0, .int x, .int y] w o w2 := by
  refine bx_of (P := pF ["java/lang/IndexOutOfBoundsException", "java/lang/IllegalArgumentException", "java/lang/UnsupportedOperationException"] (((1, 0), A)) w) (by decide +kernel) (Nat.le_of_ble_eq_true rfl) ?_
  show Ex G 8 1 mX11_paint 0 [some (.ref 0), some (.int x), some (.int y)] [] w _
  refine ex_s (fun _ => ev_iload_n dX11_paint_0 rfl) ?_
  exact ⟨_, _, (by exact ⟨rfl, h, frG_rf⟩), ev_callSx kX11_74 (qX11_needCell_n hx) dX11_paint_1 rfl (by decide) (by decide) rfl rfl⟩
set_option maxRecDepth 4000 in
theorem fX11_paint_b {G : GX} {w : WS} {A : AS} (h : aX A w) {c : Nat} (hc : c < 64) {y : Int32} (hy : out_ 4 y) (hm : y ≠ -1) : ∃ o w2, (pF ["java/lang/IndexOutOfBoundsException", "java/lang/IllegalArgumentException", "java/lang/UnsupportedOperationException"] (((2, 0), A)) w o w2) ∧ Big G 8 1 mX11_paint [.ref 0, .int (nI c), .int y] w o w2 := by
  refine bx_of (P := pF ["java/lang/IndexOutOfBoundsException", "java/lang/IllegalArgumentException", "java/lang/UnsupportedOperationException"] (((2, 0), A)) w) (by decide +kernel) (Nat.le_of_ble_eq_true rfl) ?_
  show Ex G 8 1 mX11_paint 0 [some (.ref 0), some (.int (nI c)), some (.int y)] [] w _
  refine ex_s (fun _ => ev_iload_n dX11_paint_0 rfl) ?_
  refine ex_s (fun _ => ev_callS kX11_74 (qX11_needCell_y hc) dX11_paint_1 rfl (by decide) (by decide) rfl) ?_
  refine ex_s (fun _ => ev_iload_n dX11_paint_4 rfl) ?_
  refine ex_s (fun _ => ev_iconst dX11_paint_5 icm1) ?_
  refine ex_s (fun _ => ev_icmp_eq_f (tgt := 26) dX11_paint_6 (by decide) hm) ?_
  refine ex_s (fun _ => ev_iload_n dX11_paint_9 rfl) ?_
  refine ex_s (fun _ => ev_callS kX11_78 (qX11_isRealm_n hy) dX11_paint_10 rfl (by decide) (by decide) rfl) ?_
  refine ex_s (fun _ => ev_if_ne_f (tgt := 26) dX11_paint_13 (by decide) rfl) ?_
  exact ⟨_, _, (by exact ⟨rfl, h, frG_rf⟩), ev_throw tX11_82_84_86 dX11_paint_16 dX11_paint_19 dX11_paint_20 dX11_paint_22 dX11_paint_25 (by decide) rfl rfl⟩
set_option maxRecDepth 4000 in
theorem fX11_paint_m {G : GX} {w : WS} {A : AS} (h : aX A w) {c : Nat} (hc : c < 64) {y : Int32} (hm : y = -1) : ∃ o w2, (pF ["java/lang/IndexOutOfBoundsException", "java/lang/IllegalArgumentException", "java/lang/UnsupportedOperationException"] (spCh A 3 (.inl (c, y))) w o w2) ∧ Big G 8 1 mX11_paint [.ref 0, .int (nI c), .int y] w o w2 := by
  have hv : r5 y := Or.inl hm
  refine bx_of (P := pF ["java/lang/IndexOutOfBoundsException", "java/lang/IllegalArgumentException", "java/lang/UnsupportedOperationException"] (spCh A 3 (.inl (c, y))) w) (by decide +kernel) (Nat.le_of_ble_eq_true rfl) ?_
  show Ex G 8 1 mX11_paint 0 [some (.ref 0), some (.int (nI c)), some (.int y)] [] w _
  refine ex_s (fun _ => ev_iload_n dX11_paint_0 rfl) ?_
  refine ex_s (fun _ => ev_callS kX11_74 (qX11_needCell_y hc) dX11_paint_1 rfl (by decide) (by decide) rfl) ?_
  refine ex_s (fun _ => ev_iload_n dX11_paint_4 rfl) ?_
  refine ex_s (fun _ => ev_iconst dX11_paint_5 icm1) ?_
  refine ex_s (fun _ => ev_icmp_eq_t (tgt := 26) dX11_paint_6 (by decide) hm) ?_
  refine ex_s (fun _ => ev_aload_n dX11_paint_26 rfl) ?_
  refine ex_s (fun _ => ev_getR fX11_32 dX11_paint_27 (by decide) sh0 rfl) ?_
  refine ex_s (fun _ => ev_bipush (v := nI 112) dX11_paint_30 (by decide)) ?_
  refine ex_s (fun _ => ev_iload_n dX11_paint_32 rfl) ?_
  refine ex_s (fun _ => ev_iload_n dX11_paint_33 rfl) ?_
  refine ex_s (fun _ => ev_callV kX11_89 co102 qX2_set dX11_paint_34 rfl (by decide) (by decide) rfl) ?_
  refine ex_s (fun _ => ev_aload_n dX11_paint_37 rfl) ?_
  have hX := aXG h (fr_wSet (by decide) : frG [(102, 103)] _ (wSet w (nI 112) (nI c) y)) (by decide)
  have hc0 : hC_ (wSet w (nI 112) (nI c) y) (.inl (c, y)) := ⟨rfl, rfl, rfl⟩
  obtain ⟨o, w3, ⟨p1, p2⟩, hB3⟩ := qX11_change (G := G) (aX_S hX) hc0 (show okC (.inl (c, y)) from ⟨by omega, hv⟩) (decide_eq_true hc) hX.2.2.1
  by_cases hg : grC (aS A) (.inl (c, y)) = 0
  · obtain ⟨rfl, k1, k2, k3⟩ := p2 hg
    refine ex_s2 (fun _ => ev_callV kX11_93 co0 hB3 dX11_paint_38 rfl (by decide) (by decide) rfl) ?_
    exact ⟨_, _, ch_y hX (fr_wSet (by decide)) hg k1 k2 k3, ev_iret dX11_paint_41 rfl rfl rfl rfl⟩
  · obtain ⟨rfl, k1, k2⟩ := p1 hg
    exact ⟨_, _, ch_n hX (fr_wSet (by decide)) hg k1 k2 rfl, ev_callVx kX11_93 co0 hB3 dX11_paint_38 rfl (by decide) (by decide) rfl rfl⟩
set_option maxRecDepth 4000 in
theorem fX11_paint_r {G : GX} {w : WS} {A : AS} (h : aX A w) {c : Nat} (hc : c < 64) {r : Nat} (hr : r < 4) : ∃ o w2, (pF ["java/lang/IndexOutOfBoundsException", "java/lang/IllegalArgumentException", "java/lang/UnsupportedOperationException"] (spCh A 3 (.inl (c, nI r))) w o w2) ∧ Big G 8 1 mX11_paint [.ref 0, .int (nI c), .int (nI r)] w o w2 := by
  refine bx_of (P := pF ["java/lang/IndexOutOfBoundsException", "java/lang/IllegalArgumentException", "java/lang/UnsupportedOperationException"] (spCh A 3 (.inl (c, nI r))) w) (by decide +kernel) (Nat.le_of_ble_eq_true rfl) ?_
  show Ex G 8 1 mX11_paint 0 [some (.ref 0), some (.int (nI c)), some (.int (nI r))] [] w _
  refine ex_s (fun _ => ev_iload_n dX11_paint_0 rfl) ?_
  refine ex_s (fun _ => ev_callS kX11_74 (qX11_needCell_y hc) dX11_paint_1 rfl (by decide) (by decide) rfl) ?_
  refine ex_s (fun _ => ev_iload_n dX11_paint_4 rfl) ?_
  refine ex_s (fun _ => ev_iconst dX11_paint_5 icm1) ?_
  refine ex_s (fun _ => ev_icmp_eq_f (tgt := 26) dX11_paint_6 (by decide) (nIm hr)) ?_
  refine ex_s (fun _ => ev_iload_n dX11_paint_9 rfl) ?_
  refine ex_s (fun _ => ev_callS kX11_78 (qX11_isRealm_y hr) dX11_paint_10 rfl (by decide) (by decide) rfl) ?_
  refine ex_s (fun _ => ev_if_ne_t (tgt := 26) dX11_paint_13 (by decide) (by decide)) ?_
  refine ex_s (fun _ => ev_aload_n dX11_paint_26 rfl) ?_
  refine ex_s (fun _ => ev_getR fX11_32 dX11_paint_27 (by decide) sh0 rfl) ?_
  refine ex_s (fun _ => ev_bipush (v := nI 112) dX11_paint_30 (by decide)) ?_
  refine ex_s (fun _ => ev_iload_n dX11_paint_32 rfl) ?_
  refine ex_s (fun _ => ev_iload_n dX11_paint_33 rfl) ?_
  refine ex_s (fun _ => ev_callV kX11_89 co102 qX2_set dX11_paint_34 rfl (by decide) (by decide) rfl) ?_
  refine ex_s (fun _ => ev_aload_n dX11_paint_37 rfl) ?_
  have hX := aXG h (fr_wSet (by decide) : frG [(102, 103)] _ (wSet w (nI 112) (nI c) (nI r))) (by decide)
  have hc0 : hC_ (wSet w (nI 112) (nI c) (nI r)) (.inl (c, nI r)) := ⟨rfl, rfl, rfl⟩
  obtain ⟨o, w3, ⟨p1, p2⟩, hB3⟩ := qX11_change (G := G) (aX_S hX) hc0 (show okC (.inl (c, nI r)) from ⟨by omega, Or.inr ⟨r, hr, rfl⟩⟩) (decide_eq_true hc) hX.2.2.1
  by_cases hg : grC (aS A) (.inl (c, nI r)) = 0
  · obtain ⟨rfl, k1, k2, k3⟩ := p2 hg
    refine ex_s2 (fun _ => ev_callV kX11_93 co0 hB3 dX11_paint_38 rfl (by decide) (by decide) rfl) ?_
    exact ⟨_, _, ch_y hX (fr_wSet (by decide)) hg k1 k2 k3, ev_iret dX11_paint_41 rfl rfl rfl rfl⟩
  · obtain ⟨rfl, k1, k2⟩ := p1 hg
    exact ⟨_, _, ch_n hX (fr_wSet (by decide)) hg k1 k2 rfl, ev_callVx kX11_93 co0 hB3 dX11_paint_38 rfl (by decide) (by decide) rfl rfl⟩
theorem fX11_paint {G : GX} {w : WS} {A : AS} (h : aX A w) (x y : Int32) : ∃ o w2, pF ["java/lang/IndexOutOfBoundsException", "java/lang/IllegalArgumentException", "java/lang/UnsupportedOperationException"] (spPaint A x y) w o w2 ∧ Big G 8 1 mX11_paint [.ref 0, .int x, .int y] w o w2 := by
  unfold spPaint
  rcases ixN_or 64 (by decide) x with ⟨h1, e1⟩ | ⟨c, h1, rfl, e1⟩
  · rw [e1]; exact fX11_paint_n h h1 y
  · rw [e1]
    dsimp only
    rcases ixN_or 4 (by decide) y with ⟨h2, e2⟩ | ⟨r, h2, e3, e2⟩
    · rw [e2]
      by_cases e : y = -1
      · rw [if_pos (Or.inl e)]; exact fX11_paint_m h h1 e
      · rw [if_neg (fun q => q.elim e (fun z => by cases z))]; exact fX11_paint_b h h1 h2 e
    · subst e3; rw [e2, if_pos (Or.inr (show (some r).isSome = true from rfl))]; exact fX11_paint_r h h1 h2
def spShave (A : AS) (x y : Int32) : (Nat × Int32) × AS := match ixN 64 x with
  | none => ((1, 0), A)
  | some c => match ixN 4 y with
    | none => ((1, 0), A)
    | some r => spCh A 2 (.inr (.inl (c, r)))
set_option maxRecDepth 4000 in
theorem fX11_shave_n {G : GX} {w : WS} {A : AS} (h : aX A w) {x : Int32} (hx : out_ 64 x) (y : Int32) : ∃ o w2, (pF ["java/lang/IndexOutOfBoundsException", "java/lang/UnsupportedOperationException"] (((1, 0), A)) w o w2) ∧ Big G 8 1 mX11_shave [.ref 0, .int x, .int y] w o w2 := by
  refine bx_of (P := pF ["java/lang/IndexOutOfBoundsException", "java/lang/UnsupportedOperationException"] (((1, 0), A)) w) (by decide +kernel) (Nat.le_of_ble_eq_true rfl) ?_
  show Ex G 8 1 mX11_shave 0 [some (.ref 0), some (.int x), some (.int y)] [] w _
  refine ex_s (fun _ => ev_iload_n dX11_shave_0 rfl) ?_
  exact ⟨_, _, (by exact ⟨rfl, h, frG_rf⟩), ev_callSx kX11_74 (qX11_needCell_n hx) dX11_shave_1 rfl (by decide) (by decide) rfl rfl⟩
set_option maxRecDepth 4000 in
theorem fX11_shave_m {G : GX} {w : WS} {A : AS} (h : aX A w) {c : Nat} (hc : c < 64) {y : Int32} (hy : out_ 4 y) : ∃ o w2, (pF ["java/lang/IndexOutOfBoundsException", "java/lang/UnsupportedOperationException"] (((1, 0), A)) w o w2) ∧ Big G 8 1 mX11_shave [.ref 0, .int (nI c), .int y] w o w2 := by
  refine bx_of (P := pF ["java/lang/IndexOutOfBoundsException", "java/lang/UnsupportedOperationException"] (((1, 0), A)) w) (by decide +kernel) (Nat.le_of_ble_eq_true rfl) ?_
  show Ex G 8 1 mX11_shave 0 [some (.ref 0), some (.int (nI c)), some (.int y)] [] w _
  refine ex_s (fun _ => ev_iload_n dX11_shave_0 rfl) ?_
  refine ex_s (fun _ => ev_callS kX11_74 (qX11_needCell_y hc) dX11_shave_1 rfl (by decide) (by decide) rfl) ?_
  refine ex_s (fun _ => ev_iload_n dX11_shave_4 rfl) ?_
  exact ⟨_, _, (by exact ⟨rfl, h, frG_rf⟩), ev_callSx kX11_97 (qX11_needRealm_n hy) dX11_shave_5 rfl (by decide) (by decide) rfl rfl⟩
set_option maxRecDepth 4000 in
theorem fX11_shave_y {G : GX} {w : WS} {A : AS} (h : aX A w) {c r : Nat} (hc : c < 64) (hr : r < 4) : ∃ o w2, (pF ["java/lang/IndexOutOfBoundsException", "java/lang/UnsupportedOperationException"] (spCh A 2 (.inr (.inl (c, r)))) w o w2) ∧ Big G 8 1 mX11_shave [.ref 0, .int (nI c), .int (nI r)] w o w2 := by
  refine bx_of (P := pF ["java/lang/IndexOutOfBoundsException", "java/lang/UnsupportedOperationException"] (spCh A 2 (.inr (.inl (c, r)))) w) (by decide +kernel) (Nat.le_of_ble_eq_true rfl) ?_
  show Ex G 8 1 mX11_shave 0 [some (.ref 0), some (.int (nI c)), some (.int (nI r))] [] w _
  refine ex_s (fun _ => ev_iload_n dX11_shave_0 rfl) ?_
  refine ex_s (fun _ => ev_callS kX11_74 (qX11_needCell_y hc) dX11_shave_1 rfl (by decide) (by decide) rfl) ?_
  refine ex_s (fun _ => ev_iload_n dX11_shave_4 rfl) ?_
  refine ex_s (fun _ => ev_callS kX11_97 (qX11_needRealm_y hr) dX11_shave_5 rfl (by decide) (by decide) rfl) ?_
  refine ex_s (fun _ => ev_aload_n dX11_shave_8 rfl) ?_
  refine ex_s (fun _ => ev_getR fX11_32 dX11_shave_9 (by decide) sh0 rfl) ?_
  refine ex_s (fun _ => ev_bipush (v := nI 115) dX11_shave_12 (by decide)) ?_
  refine ex_s (fun _ => ev_iload_n dX11_shave_14 rfl) ?_
  refine ex_s (fun _ => ev_iload_n dX11_shave_15 rfl) ?_
  refine ex_s (fun _ => ev_callV kX11_89 co102 qX2_set dX11_shave_16 rfl (by decide) (by decide) rfl) ?_
  refine ex_s (fun _ => ev_aload_n dX11_shave_19 rfl) ?_
  have hX := aXG h (fr_wSet (by decide) : frG [(102, 103)] _ (wSet w (nI 115) (nI c) (nI r))) (by decide)
  have hc0 : hC_ (wSet w (nI 115) (nI c) (nI r)) (.inr (.inl (c, r))) := ⟨rfl, rfl, rfl⟩
  obtain ⟨o, w3, ⟨p1, p2⟩, hB3⟩ := qX11_change (G := G) (aX_S hX) hc0 (show okC (.inr (.inl (c, r))) from ⟨by omega, hr⟩) (decide_eq_true hc) hX.2.2.1
  by_cases hg : grC (aS A) (.inr (.inl (c, r))) = 0
  · obtain ⟨rfl, k1, k2, k3⟩ := p2 hg
    refine ex_s2 (fun _ => ev_callV kX11_93 co0 hB3 dX11_shave_20 rfl (by decide) (by decide) rfl) ?_
    exact ⟨_, _, ch_y hX (fr_wSet (by decide)) hg k1 k2 k3, ev_iret dX11_shave_23 rfl rfl rfl rfl⟩
  · obtain ⟨rfl, k1, k2⟩ := p1 hg
    exact ⟨_, _, ch_n hX (fr_wSet (by decide)) hg k1 k2 rfl, ev_callVx kX11_93 co0 hB3 dX11_shave_20 rfl (by decide) (by decide) rfl rfl⟩
theorem fX11_shave {G : GX} {w : WS} {A : AS} (h : aX A w) (x y : Int32) : ∃ o w2, pF ["java/lang/IndexOutOfBoundsException", "java/lang/UnsupportedOperationException"] (spShave A x y) w o w2 ∧ Big G 8 1 mX11_shave [.ref 0, .int x, .int y] w o w2 := by
  unfold spShave
  rcases ixN_or 64 (by decide) x with ⟨h1, e1⟩ | ⟨c, h1, rfl, e1⟩
  · rw [e1]; exact fX11_shave_n h h1 y
  · rw [e1]
    dsimp only
    rcases ixN_or 4 (by decide) y with ⟨h2, e2⟩ | ⟨r, h2, rfl, e2⟩
    · rw [e2]; exact fX11_shave_m h h1 h2
    · rw [e2]
      exact fX11_shave_y h h1 h2
def spScale (A : AS) (x : Int32) : (Nat × Int32) × AS := match ixN 10 x with
  | none => ((1, 0), A)
  | some m => if m = 0 then ((1, 0), A) else spCh A 2 (.inr (.inr (.inl m)))
set_option maxRecDepth 4000 in
theorem fX11_scale_n {G : GX} {w : WS} {A : AS} (h : aX A w) {x : Int32} (hx : x < nI 1 ∨ nI 9 < x) : ∃ o w2, (pF ["java/lang/IllegalArgumentException", "java/lang/UnsupportedOperationException"] (((1, 0), A)) w o w2) ∧ Big G 8 1 mX11_scale [.ref 0, .int x] w o w2 := by
  refine bx_of (P := pF ["java/lang/IllegalArgumentException", "java/lang/UnsupportedOperationException"] (((1, 0), A)) w) (by decide +kernel) (Nat.le_of_ble_eq_true rfl) ?_
  show Ex G 8 1 mX11_scale 0 [some (.ref 0), some (.int x)] [] w _
  refine ex_s (fun _ => ev_iload_n dX11_scale_0 rfl) ?_
  refine ex_s (fun _ => ev_callS kX11_100 (qX11_isScale_n hx) dX11_scale_1 rfl (by decide) (by decide) rfl) ?_
  refine ex_s (fun _ => ev_if_ne_f (tgt := 17) dX11_scale_4 (by decide) rfl) ?_
  exact ⟨_, _, (by exact ⟨rfl, h, frG_rf⟩), ev_throw tX11_82_103_86 dX11_scale_7 dX11_scale_10 dX11_scale_11 dX11_scale_13 dX11_scale_16 (by decide) rfl rfl⟩
set_option maxRecDepth 4000 in
theorem fX11_scale_y {G : GX} {w : WS} {A : AS} (h : aX A w) {m : Nat} (h1 : 1 ≤ m) (h9 : m ≤ 9) : ∃ o w2, (pF ["java/lang/IllegalArgumentException", "java/lang/UnsupportedOperationException"] (spCh A 2 (.inr (.inr (.inl m)))) w o w2) ∧ Big G 8 1 mX11_scale [.ref 0, .int (nI m)] w o w2 := by
  refine bx_of (P := pF ["java/lang/IllegalArgumentException", "java/lang/UnsupportedOperationException"] (spCh A 2 (.inr (.inr (.inl m)))) w) (by decide +kernel) (Nat.le_of_ble_eq_true rfl) ?_
  show Ex G 8 1 mX11_scale 0 [some (.ref 0), some (.int (nI m))] [] w _
  refine ex_s (fun _ => ev_iload_n dX11_scale_0 rfl) ?_
  refine ex_s (fun _ => ev_callS kX11_100 (qX11_isScale_y h1 h9) dX11_scale_1 rfl (by decide) (by decide) rfl) ?_
  refine ex_s (fun _ => ev_if_ne_t (tgt := 17) dX11_scale_4 (by decide) (by decide)) ?_
  refine ex_s (fun _ => ev_aload_n dX11_scale_17 rfl) ?_
  refine ex_s (fun _ => ev_getR fX11_32 dX11_scale_18 (by decide) sh0 rfl) ?_
  refine ex_s (fun _ => ev_bipush (v := nI 109) dX11_scale_21 (by decide)) ?_
  refine ex_s (fun _ => ev_iconst dX11_scale_23 icm1) ?_
  refine ex_s (fun _ => ev_iload_n dX11_scale_24 rfl) ?_
  refine ex_s (fun _ => ev_callV kX11_89 co102 qX2_set dX11_scale_25 rfl (by decide) (by decide) rfl) ?_
  refine ex_s (fun _ => ev_aload_n dX11_scale_28 rfl) ?_
  have hX := aXG h (fr_wSet (by decide) : frG [(102, 103)] _ (wSet w (nI 109) (-1) (nI m))) (by decide)
  have hc0 : hC_ (wSet w (nI 109) (-1) (nI m)) (.inr (.inr (.inl m))) := ⟨rfl, rfl⟩
  obtain ⟨o, w3, ⟨p1, p2⟩, hB3⟩ := qX11_change (G := G) (aX_S hX) hc0 (show m < 10 by omega) (decide_eq_true ⟨h1, h9⟩) hX.2.2.1
  by_cases hg : grC (aS A) (.inr (.inr (.inl m))) = 0
  · obtain ⟨rfl, k1, k2, k3⟩ := p2 hg
    refine ex_s2 (fun _ => ev_callV kX11_93 co0 hB3 dX11_scale_29 rfl (by decide) (by decide) rfl) ?_
    exact ⟨_, _, ch_y hX (fr_wSet (by decide)) hg k1 k2 k3, ev_iret dX11_scale_32 rfl rfl rfl rfl⟩
  · obtain ⟨rfl, k1, k2⟩ := p1 hg
    exact ⟨_, _, ch_n hX (fr_wSet (by decide)) hg k1 k2 rfl, ev_callVx kX11_93 co0 hB3 dX11_scale_29 rfl (by decide) (by decide) rfl rfl⟩
theorem nI_lt10 {x : Int32} {k : Nat} (hk : k + 1 < 2 ^ 31) (h : nI (k + 1) ≤ x) : nI k < x := by
  rw [Int32.lt_iff_toInt_lt]
  rw [Int32.le_iff_toInt_le] at h
  rw [nI_toInt hk] at h
  rw [nI_toInt (by omega)]
  omega
theorem fX11_scale {G : GX} {w : WS} {A : AS} (h : aX A w) (x : Int32) : ∃ o w2, pF ["java/lang/IllegalArgumentException", "java/lang/UnsupportedOperationException"] (spScale A x) w o w2 ∧ Big G 8 1 mX11_scale [.ref 0, .int x] w o w2 := by
  unfold spScale
  rcases ixN_or 10 (by decide) x with ⟨h1, e1⟩ | ⟨m, h1, rfl, e1⟩
  · rw [e1]
    exact fX11_scale_n h (h1.elim (fun q => Or.inl (Int32.lt_trans q (by decide))) (fun q => Or.inr (nI_lt10 (by decide) q)))
  · rw [e1]
    dsimp only
    by_cases e : m = 0
    · rw [if_pos e, e]; exact fX11_scale_n h (Or.inl (by decide))
    · rw [if_neg e]; exact fX11_scale_y h (by omega) (by omega)
def spDrop (A : AS) (x : Int32) : (Nat × Int32) × AS := match ixN (nR (aS A)) x with
  | none => ((1, 0), A)
  | some i => spCh A 9 (.inr (.inr (.inr (.inr (.inl i)))))
def spScare (A : AS) (x : Int32) : (Nat × Int32) × AS := match ixN (nD (aS A)) x with
  | none => ((1, 0), A)
  | some i => spCh A 9 (.inr (.inr (.inr (.inr (.inr (.inr i))))))
set_option maxRecDepth 4000 in
theorem fX11_drop_n {G : GX} {w : WS} {A : AS} (h : aX A w) {x : Int32} (hx : out_ (nR (aS A)) x) : ∃ o w2, (pF ["java/lang/IndexOutOfBoundsException"] (((1, 0), A)) w o w2) ∧ Big G 8 1 mX11_drop [.ref 0, .int x] w o w2 := by
  refine bx_of (P := pF ["java/lang/IndexOutOfBoundsException"] (((1, 0), A)) w) (by decide +kernel) (Nat.le_of_ble_eq_true rfl) ?_
  show Ex G 8 1 mX11_drop 0 [some (.ref 0), some (.int x)] [] w _
  refine ex_s (fun _ => ev_aload_n dX11_drop_0 rfl) ?_
  refine ex_s (fun _ => ev_iload_n dX11_drop_1 rfl) ?_
  exact ⟨_, _, (by exact ⟨rfl, h, frG_rf⟩), ev_callVx kX11_119 co0 (qX11_needRiver_n h.1 hx) dX11_drop_2 rfl (by decide) (by decide) rfl rfl⟩
set_option maxRecDepth 4000 in
theorem fX11_drop_y {G : GX} {w : WS} {A : AS} (h : aX A w) {i : Nat} (hi : i < nR (aS A)) : ∃ o w2, (pF ["java/lang/IndexOutOfBoundsException"] (spCh A 9 (.inr (.inr (.inr (.inr (.inl i)))))) w o w2) ∧ Big G 8 1 mX11_drop [.ref 0, .int (nI i)] w o w2 := by
  have h5 := h.1.2.2.1.1
  have h6 := h.1.2.2.2.1.1
  refine bx_of (P := pF ["java/lang/IndexOutOfBoundsException"] (spCh A 9 (.inr (.inr (.inr (.inr (.inl i)))))) w) (by decide +kernel) (Nat.le_of_ble_eq_true rfl) ?_
  show Ex G 8 1 mX11_drop 0 [some (.ref 0), some (.int (nI i))] [] w _
  refine ex_s (fun _ => ev_aload_n dX11_drop_0 rfl) ?_
  refine ex_s (fun _ => ev_iload_n dX11_drop_1 rfl) ?_
  refine ex_s (fun _ => ev_callV kX11_119 co0 (qX11_needRiver_y h.1 hi) dX11_drop_2 rfl (by decide) (by decide) rfl) ?_
  refine ex_s (fun _ => ev_aload_n dX11_drop_5 rfl) ?_
  refine ex_s (fun _ => ev_getR fX11_32 dX11_drop_6 (by decide) sh0 rfl) ?_
  refine ex_s (fun _ => ev_bipush (v := nI 107) dX11_drop_9 (by decide)) ?_
  refine ex_s (fun _ => ev_iconst dX11_drop_11 icm1) ?_
  refine ex_s (fun _ => ev_iload_n dX11_drop_12 rfl) ?_
  refine ex_s (fun _ => ev_callV kX11_89 co102 qX2_set dX11_drop_13 rfl (by decide) (by decide) rfl) ?_
  refine ex_s (fun _ => ev_aload_n dX11_drop_16 rfl) ?_
  have hX := aXG h (fr_wSet (by decide) : frG [(102, 103)] _ (wSet w (nI 107) (-1) (nI i))) (by decide)
  have hc0 : hC_ (wSet w (nI 107) (-1) (nI i)) (.inr (.inr (.inr (.inr (.inl i))))) := ⟨rfl, rfl⟩
  obtain ⟨o, w3, ⟨p1, p2⟩, hB3⟩ := qX11_change (G := G) (aX_S hX) hc0 (show i < 10 by omega) (decide_eq_true hi) hX.2.2.1
  by_cases hg : grC (aS A) (.inr (.inr (.inr (.inr (.inl i))))) = 0
  · obtain ⟨rfl, k1, k2, k3⟩ := p2 hg
    refine ex_s2 (fun _ => ev_callV kX11_93 co0 hB3 dX11_drop_17 rfl (by decide) (by decide) rfl) ?_
    exact ⟨_, _, ch_y hX (fr_wSet (by decide)) hg k1 k2 k3, ev_iret dX11_drop_20 rfl rfl rfl rfl⟩
  · exact absurd rfl hg
theorem fX11_drop {G : GX} {w : WS} {A : AS} (h : aX A w) (x : Int32) : ∃ o w2, pF ["java/lang/IndexOutOfBoundsException"] (spDrop A x) w o w2 ∧ Big G 8 1 mX11_drop [.ref 0, .int x] w o w2 := by
  unfold spDrop
  rcases ixN_or (nR (aS A)) (by have h5 := h.1.2.2.1.1; have h6 := h.1.2.2.2.1.1; omega) x with ⟨h1, e1⟩ | ⟨i, h1, rfl, e1⟩
  · rw [e1]; exact fX11_drop_n h h1
  · rw [e1]; exact fX11_drop_y h h1
set_option maxRecDepth 4000 in
theorem fX11_scare_n {G : GX} {w : WS} {A : AS} (h : aX A w) {x : Int32} (hx : out_ (nD (aS A)) x) : ∃ o w2, (pF ["java/lang/IndexOutOfBoundsException"] (((1, 0), A)) w o w2) ∧ Big G 8 1 mX11_scare [.ref 0, .int x] w o w2 := by
  refine bx_of (P := pF ["java/lang/IndexOutOfBoundsException"] (((1, 0), A)) w) (by decide +kernel) (Nat.le_of_ble_eq_true rfl) ?_
  show Ex G 8 1 mX11_scare 0 [some (.ref 0), some (.int x)] [] w _
  refine ex_s (fun _ => ev_aload_n dX11_scare_0 rfl) ?_
  refine ex_s (fun _ => ev_iload_n dX11_scare_1 rfl) ?_
  exact ⟨_, _, (by exact ⟨rfl, h, frG_rf⟩), ev_callVx kX11_127 co0 (qX11_needDragon_n h.1 hx) dX11_scare_2 rfl (by decide) (by decide) rfl rfl⟩
set_option maxRecDepth 4000 in
theorem fX11_scare_y {G : GX} {w : WS} {A : AS} (h : aX A w) {i : Nat} (hi : i < nD (aS A)) : ∃ o w2, (pF ["java/lang/IndexOutOfBoundsException"] (spCh A 9 (.inr (.inr (.inr (.inr (.inr (.inr i))))))) w o w2) ∧ Big G 8 1 mX11_scare [.ref 0, .int (nI i)] w o w2 := by
  have h5 := h.1.2.2.1.1
  have h6 := h.1.2.2.2.1.1
  refine bx_of (P := pF ["java/lang/IndexOutOfBoundsException"] (spCh A 9 (.inr (.inr (.inr (.inr (.inr (.inr i))))))) w) (by decide +kernel) (Nat.le_of_ble_eq_true rfl) ?_
  show Ex G 8 1 mX11_scare 0 [some (.ref 0), some (.int (nI i))] [] w _
  refine ex_s (fun _ => ev_aload_n dX11_scare_0 rfl) ?_
  refine ex_s (fun _ => ev_iload_n dX11_scare_1 rfl) ?_
  refine ex_s (fun _ => ev_callV kX11_127 co0 (qX11_needDragon_y h.1 hi) dX11_scare_2 rfl (by decide) (by decide) rfl) ?_
  refine ex_s (fun _ => ev_aload_n dX11_scare_5 rfl) ?_
  refine ex_s (fun _ => ev_getR fX11_32 dX11_scare_6 (by decide) sh0 rfl) ?_
  refine ex_s (fun _ => ev_bipush (v := nI 102) dX11_scare_9 (by decide)) ?_
  refine ex_s (fun _ => ev_iconst dX11_scare_11 icm1) ?_
  refine ex_s (fun _ => ev_iload_n dX11_scare_12 rfl) ?_
  refine ex_s (fun _ => ev_callV kX11_89 co102 qX2_set dX11_scare_13 rfl (by decide) (by decide) rfl) ?_
  refine ex_s (fun _ => ev_aload_n dX11_scare_16 rfl) ?_
  have hX := aXG h (fr_wSet (by decide) : frG [(102, 103)] _ (wSet w (nI 102) (-1) (nI i))) (by decide)
  have hc0 : hC_ (wSet w (nI 102) (-1) (nI i)) (.inr (.inr (.inr (.inr (.inr (.inr i)))))) := ⟨rfl, rfl⟩
  obtain ⟨o, w3, ⟨p1, p2⟩, hB3⟩ := qX11_change (G := G) (aX_S hX) hc0 (show i < 10 by omega) (decide_eq_true hi) hX.2.2.1
  by_cases hg : grC (aS A) (.inr (.inr (.inr (.inr (.inr (.inr i)))))) = 0
  · obtain ⟨rfl, k1, k2, k3⟩ := p2 hg
    refine ex_s2 (fun _ => ev_callV kX11_93 co0 hB3 dX11_scare_17 rfl (by decide) (by decide) rfl) ?_
    exact ⟨_, _, ch_y hX (fr_wSet (by decide)) hg k1 k2 k3, ev_iret dX11_scare_20 rfl rfl rfl rfl⟩
  · exact absurd rfl hg
theorem fX11_scare {G : GX} {w : WS} {A : AS} (h : aX A w) (x : Int32) : ∃ o w2, pF ["java/lang/IndexOutOfBoundsException"] (spScare A x) w o w2 ∧ Big G 8 1 mX11_scare [.ref 0, .int x] w o w2 := by
  unfold spScare
  rcases ixN_or (nD (aS A)) (by have h5 := h.1.2.2.1.1; have h6 := h.1.2.2.2.1.1; omega) x with ⟨h1, e1⟩ | ⟨i, h1, rfl, e1⟩
  · rw [e1]; exact fX11_scare_n h h1
  · rw [e1]; exact fX11_scare_y h h1
def spDragon (A : AS) (x y : Int32) : (Nat × Int32) × AS := match ixN 64 x with
  | none => ((1, 0), A)
  | some c => match ixN 51 y with
    | none => ((2, 0), A)
    | some p => if p = 0 then ((2, 0), A) else spCh A 3 (.inr (.inr (.inr (.inr (.inr (.inl (c, p)))))))
set_option maxRecDepth 4000 in
theorem fX11_dragon_n {G : GX} {w : WS} {A : AS} (h : aX A w) {x : Int32} (hx : out_ 64 x) (y : Int32) : ∃ o w2, (pF ["java/lang/IndexOutOfBoundsException", "java/lang/IllegalArgumentException", "java/lang/UnsupportedOperationException"] (((1, 0), A)) w o w2) ∧ Big G 8 1 mX11_dragon [.ref 0, .int x, .int y] w o w2 := by
  refine bx_of (P := pF ["java/lang/IndexOutOfBoundsException", "java/lang/IllegalArgumentException", "java/lang/UnsupportedOperationException"] (((1, 0), A)) w) (by decide +kernel) (Nat.le_of_ble_eq_true rfl) ?_
  show Ex G 8 1 mX11_dragon 0 [some (.ref 0), some (.int x), some (.int y)] [] w _
  refine ex_s (fun _ => ev_iload_n dX11_dragon_0 rfl) ?_
  exact ⟨_, _, (by exact ⟨rfl, h, frG_rf⟩), ev_callSx kX11_74 (qX11_needCell_n hx) dX11_dragon_1 rfl (by decide) (by decide) rfl rfl⟩
set_option maxRecDepth 4000 in
theorem fX11_dragon_q {G : GX} {w : WS} {A : AS} (h : aX A w) {c : Nat} (hc : c < 64) {y : Int32} (hy : y < nI 1 ∨ nI 50 < y) : ∃ o w2, (pF ["java/lang/IndexOutOfBoundsException", "java/lang/IllegalArgumentException", "java/lang/UnsupportedOperationException"] (((2, 0), A)) w o w2) ∧ Big G 8 1 mX11_dragon [.ref 0, .int (nI c), .int y] w o w2 := by
  refine bx_of (P := pF ["java/lang/IndexOutOfBoundsException", "java/lang/IllegalArgumentException", "java/lang/UnsupportedOperationException"] (((2, 0), A)) w) (by decide +kernel) (Nat.le_of_ble_eq_true rfl) ?_
  show Ex G 8 1 mX11_dragon 0 [some (.ref 0), some (.int (nI c)), some (.int y)] [] w _
  refine ex_s (fun _ => ev_iload_n dX11_dragon_0 rfl) ?_
  refine ex_s (fun _ => ev_callS kX11_74 (qX11_needCell_y hc) dX11_dragon_1 rfl (by decide) (by decide) rfl) ?_
  refine ex_s (fun _ => ev_iload_n dX11_dragon_4 rfl) ?_
  refine ex_s (fun _ => ev_callS kX11_122 (qX11_isPrice_n hy) dX11_dragon_5 rfl (by decide) (by decide) rfl) ?_
  refine ex_s (fun _ => ev_if_ne_f (tgt := 21) dX11_dragon_8 (by decide) rfl) ?_
  exact ⟨_, _, (by exact ⟨rfl, h, frG_rf⟩), ev_throw tX11_82_125_86 dX11_dragon_11 dX11_dragon_14 dX11_dragon_15 dX11_dragon_17 dX11_dragon_20 (by decide) rfl rfl⟩
theorem fX11_dragon_m {G : GX} {w : WS} {A : AS} (h : aX A w) {c : Nat} (hc : c < 64) {y : Int32} (hy : out_ 51 y) : ∃ o w2, pF ["java/lang/IndexOutOfBoundsException", "java/lang/IllegalArgumentException", "java/lang/UnsupportedOperationException"] ((2, 0), A) w o w2 ∧ Big G 8 1 mX11_dragon [.ref 0, .int (nI c), .int y] w o w2 := fX11_dragon_q h hc (hy.elim (fun q => Or.inl (Int32.lt_trans q (by decide))) (fun q => Or.inr (nI_lt10 (by decide) q)))
set_option maxRecDepth 4000 in
theorem fX11_dragon_y {G : GX} {w : WS} {A : AS} (h : aX A w) {c p : Nat} (hc : c < 64) (h1 : 1 ≤ p) (h50 : p ≤ 50) : ∃ o w2, (pF ["java/lang/IndexOutOfBoundsException", "java/lang/IllegalArgumentException", "java/lang/UnsupportedOperationException"] (spCh A 3 (.inr (.inr (.inr (.inr (.inr (.inl (c, p)))))))) w o w2) ∧ Big G 8 1 mX11_dragon [.ref 0, .int (nI c), .int (nI p)] w o w2 := by
  refine bx_of (P := pF ["java/lang/IndexOutOfBoundsException", "java/lang/IllegalArgumentException", "java/lang/UnsupportedOperationException"] (spCh A 3 (.inr (.inr (.inr (.inr (.inr (.inl (c, p)))))))) w) (by decide +kernel) (Nat.le_of_ble_eq_true rfl) ?_
  show Ex G 8 1 mX11_dragon 0 [some (.ref 0), some (.int (nI c)), some (.int (nI p))] [] w _
  refine ex_s (fun _ => ev_iload_n dX11_dragon_0 rfl) ?_
  refine ex_s (fun _ => ev_callS kX11_74 (qX11_needCell_y hc) dX11_dragon_1 rfl (by decide) (by decide) rfl) ?_
  refine ex_s (fun _ => ev_iload_n dX11_dragon_4 rfl) ?_
  refine ex_s (fun _ => ev_callS kX11_122 (qX11_isPrice_y h1 h50) dX11_dragon_5 rfl (by decide) (by decide) rfl) ?_
  refine ex_s (fun _ => ev_if_ne_t (tgt := 21) dX11_dragon_8 (by decide) (by decide)) ?_
  refine ex_s (fun _ => ev_aload_n dX11_dragon_21 rfl) ?_
  refine ex_s (fun _ => ev_getR fX11_32 dX11_dragon_22 (by decide) sh0 rfl) ?_
  refine ex_s (fun _ => ev_bipush (v := nI 100) dX11_dragon_25 (by decide)) ?_
  refine ex_s (fun _ => ev_iload_n dX11_dragon_27 rfl) ?_
  refine ex_s (fun _ => ev_iload_n dX11_dragon_28 rfl) ?_
  refine ex_s (fun _ => ev_callV kX11_89 co102 qX2_set dX11_dragon_29 rfl (by decide) (by decide) rfl) ?_
  refine ex_s (fun _ => ev_aload_n dX11_dragon_32 rfl) ?_
  have hX := aXG h (fr_wSet (by decide) : frG [(102, 103)] _ (wSet w (nI 100) (nI c) (nI p))) (by decide)
  have hc0 : hC_ (wSet w (nI 100) (nI c) (nI p)) (.inr (.inr (.inr (.inr (.inr (.inl (c, p))))))) := ⟨rfl, rfl, rfl⟩
  obtain ⟨o, w3, ⟨p1, p2⟩, hB3⟩ := qX11_change (G := G) (aX_S hX) hc0 (show okC (.inr (.inr (.inr (.inr (.inr (.inl (c, p))))))) from ⟨by omega, by omega⟩) (show (decide (c < 64) && decide (1 ≤ p ∧ p ≤ 50)) = true by rw [decide_eq_true hc, decide_eq_true ⟨h1, h50⟩]; rfl) hX.2.2.1
  by_cases hg : grC (aS A) (.inr (.inr (.inr (.inr (.inr (.inl (c, p))))))) = 0
  · obtain ⟨rfl, k1, k2, k3⟩ := p2 hg
    refine ex_s2 (fun _ => ev_callV kX11_93 co0 hB3 dX11_dragon_33 rfl (by decide) (by decide) rfl) ?_
    exact ⟨_, _, ch_y hX (fr_wSet (by decide)) hg k1 k2 k3, ev_iret dX11_dragon_36 rfl rfl rfl rfl⟩
  · obtain ⟨rfl, k1, k2⟩ := p1 hg
    exact ⟨_, _, ch_n hX (fr_wSet (by decide)) hg k1 k2 rfl, ev_callVx kX11_93 co0 hB3 dX11_dragon_33 rfl (by decide) (by decide) rfl rfl⟩
theorem fX11_dragon {G : GX} {w : WS} {A : AS} (h : aX A w) (x y : Int32) : ∃ o w2, pF ["java/lang/IndexOutOfBoundsException", "java/lang/IllegalArgumentException", "java/lang/UnsupportedOperationException"] (spDragon A x y) w o w2 ∧ Big G 8 1 mX11_dragon [.ref 0, .int x, .int y] w o w2 := by
  unfold spDragon
  rcases ixN_or 64 (by decide) x with ⟨h1, e1⟩ | ⟨c, h1, rfl, e1⟩
  · rw [e1]; exact fX11_dragon_n h h1 y
  · rw [e1]
    dsimp only
    rcases ixN_or 51 (by decide) y with ⟨h2, e2⟩ | ⟨r, h2, rfl, e2⟩
    · rw [e2]; exact fX11_dragon_m h h1 h2
    · rw [e2]
      dsimp only
      by_cases e : r = 0
      · rw [if_pos e, e]; exact fX11_dragon_q h h1 (Or.inl (by decide))
      · rw [if_neg e]; exact fX11_dragon_y h h1 (by omega) (by omega)
def spRiver (A : AS) (x y : Int32) : (Nat × Int32) × AS := match ixN 64 x with
  | none => ((1, 0), aC A)
  | some c => match ixN 100 y with
    | none => ((2, 0), aC A)
    | some r => if 0 < stN (aN A) (aT A) 12 0 ∧ stN (aN A) (aT A) 12 0 = aN A then spCh (aC A) 4 (.inr (.inr (.inr (.inl (c, r, stN (aN A) (aT A) 12 0, stD (aN A) (aT A) 0))))) else ((3, 0), aC A)
set_option maxRecDepth 4000 in
theorem fX11_river_n {G : GX} {w : WS} {A : AS} (h : aX A w) {x : Int32} (hx : out_ 64 x) (y : Int32) : ∃ o w2, (pF ["java/lang/IndexOutOfBoundsException", "java/lang/IllegalArgumentException", "java/lang/IllegalStateException", "java/lang/UnsupportedOperationException"] (((1, 0), aC A)) w o w2) ∧ Big G 8 1 mX11_river [.ref 0, .int x, .int y] w o w2 := by
  refine bx_of (P := pF ["java/lang/IndexOutOfBoundsException", "java/lang/IllegalArgumentException", "java/lang/IllegalStateException", "java/lang/UnsupportedOperationException"] (((1, 0), aC A)) w) (by decide +kernel) (Nat.le_of_ble_eq_true rfl) ?_
  show Ex G 8 1 mX11_river 0 [some (.ref 0), some (.int x), some (.int y), none] [] w _
  refine ex_s (fun _ => ev_aload_n dX11_river_0 rfl) ?_
  refine ex_s (fun _ => ev_getR fX11_32 dX11_river_1 (by decide) sh0 rfl) ?_
  refine ex_s (fun _ => ev_bipush (v := nI 114) dX11_river_4 (by decide)) ?_
  refine ex_s (fun _ => ev_iload_n dX11_river_6 rfl) ?_
  refine ex_s (fun _ => ev_iload_n dX11_river_7 rfl) ?_
  refine ex_s (fun _ => ev_callV kX11_89 co102 qX2_set dX11_river_8 rfl (by decide) (by decide) rfl) ?_
  refine ex_s (fun _ => ev_aload_n dX11_river_11 rfl) ?_
  refine ex_s (fun _ => ev_getR fX11_39 dX11_river_12 (by decide) sh0 rfl) ?_
  refine ex_s (fun _ => ev_aload_n dX11_river_15 rfl) ?_
  refine ex_s (fun _ => ev_getR fX11_32 dX11_river_16 (by decide) sh0 rfl) ?_
  have hX1 := aXG h (fr_wSet (by decide) : frG [(102, 103)] _ (wSet w (nI 114) x y)) (by decide)
  obtain ⟨_, w3, ⟨rfl, k1, k2, k3⟩, hB3⟩ := qX7_isOnlySteps (G := G) hX1.2.2.2.1
  have f3 : frG [(102, 103), (106, 106)] (wSet w (nI 114) x y) w3 := frG_L k1 (by decide)
  have hX3 := aX_C (aXG hX1 f3 (by decide))
  have fA : frG [(0, 114)] w (cs_ w3 104 (upd (w3.1 104) 1 (nI 0))) := frG_cs (frG_tr (fr_wSet (by decide)) (frG_mo f3 (by decide))) (by decide) _
  refine ex_s (fun _ => ev_callV kX11_105 co106 hB3 dX11_river_19 rfl (by decide) (by decide) rfl) ?_
  refine ex_s (fun _ => ev_ist3 dX11_river_22 (by decide) rfl) ?_
  refine ex_s (fun _ => ev_aload_n dX11_river_23 rfl) ?_
  refine ex_s (fun _ => ev_getR fX11_47 dX11_river_24 (by decide) sh0 rfl) ?_
  refine ex_s (fun _ => ev_callV kX11_109 co104 qX9_clear_104 dX11_river_27 rfl (by decide) (by decide) rfl) ?_
  refine ex_s (fun _ => ev_iload_n dX11_river_30 rfl) ?_
  exact ⟨_, _, (by exact ⟨rfl, hX3, fA⟩), ev_callSx kX11_74 (qX11_needCell_n hx) dX11_river_31 rfl (by decide) (by decide) rfl rfl⟩
set_option maxRecDepth 4000 in
theorem fX11_river_m {G : GX} {w : WS} {A : AS} (h : aX A w) {c : Nat} (hc : c < 64) {y : Int32} (hy : out_ 100 y) : ∃ o w2, (pF ["java/lang/IndexOutOfBoundsException", "java/lang/IllegalArgumentException", "java/lang/IllegalStateException", "java/lang/UnsupportedOperationException"] (((2, 0), aC A)) w o w2) ∧ Big G 8 1 mX11_river [.ref 0, .int (nI c), .int y] w o w2 := by
  refine bx_of (P := pF ["java/lang/IndexOutOfBoundsException", "java/lang/IllegalArgumentException", "java/lang/IllegalStateException", "java/lang/UnsupportedOperationException"] (((2, 0), aC A)) w) (by decide +kernel) (Nat.le_of_ble_eq_true rfl) ?_
  show Ex G 8 1 mX11_river 0 [some (.ref 0), some (.int (nI c)), some (.int y), none] [] w _
  refine ex_s (fun _ => ev_aload_n dX11_river_0 rfl) ?_
  refine ex_s (fun _ => ev_getR fX11_32 dX11_river_1 (by decide) sh0 rfl) ?_
  refine ex_s (fun _ => ev_bipush (v := nI 114) dX11_river_4 (by decide)) ?_
  refine ex_s (fun _ => ev_iload_n dX11_river_6 rfl) ?_
  refine ex_s (fun _ => ev_iload_n dX11_river_7 rfl) ?_
  refine ex_s (fun _ => ev_callV kX11_89 co102 qX2_set dX11_river_8 rfl (by decide) (by decide) rfl) ?_
  refine ex_s (fun _ => ev_aload_n dX11_river_11 rfl) ?_
  refine ex_s (fun _ => ev_getR fX11_39 dX11_river_12 (by decide) sh0 rfl) ?_
  refine ex_s (fun _ => ev_aload_n dX11_river_15 rfl) ?_
  refine ex_s (fun _ => ev_getR fX11_32 dX11_river_16 (by decide) sh0 rfl) ?_
  have hX1 := aXG h (fr_wSet (by decide) : frG [(102, 103)] _ (wSet w (nI 114) (nI c) y)) (by decide)
  obtain ⟨_, w3, ⟨rfl, k1, k2, k3⟩, hB3⟩ := qX7_isOnlySteps (G := G) hX1.2.2.2.1
  have f3 : frG [(102, 103), (106, 106)] (wSet w (nI 114) (nI c) y) w3 := frG_L k1 (by decide)
  have hX3 := aX_C (aXG hX1 f3 (by decide))
  have fA : frG [(0, 114)] w (cs_ w3 104 (upd (w3.1 104) 1 (nI 0))) := frG_cs (frG_tr (fr_wSet (by decide)) (frG_mo f3 (by decide))) (by decide) _
  refine ex_s (fun _ => ev_callV kX11_105 co106 hB3 dX11_river_19 rfl (by decide) (by decide) rfl) ?_
  refine ex_s (fun _ => ev_ist3 dX11_river_22 (by decide) rfl) ?_
  refine ex_s (fun _ => ev_aload_n dX11_river_23 rfl) ?_
  refine ex_s (fun _ => ev_getR fX11_47 dX11_river_24 (by decide) sh0 rfl) ?_
  refine ex_s (fun _ => ev_callV kX11_109 co104 qX9_clear_104 dX11_river_27 rfl (by decide) (by decide) rfl) ?_
  refine ex_s (fun _ => ev_iload_n dX11_river_30 rfl) ?_
  refine ex_s (fun _ => ev_callS kX11_74 (qX11_needCell_y hc) dX11_river_31 rfl (by decide) (by decide) rfl) ?_
  refine ex_s (fun _ => ev_iload_n dX11_river_34 rfl) ?_
  refine ex_bp (fun _ => ev_if_lt (tgt := 44) dX11_river_35 (by decide)) (fun hc35 => ?_) (fun hc35 => ?_)
  · exact ⟨_, _, (by exact ⟨rfl, hX3, fA⟩), ev_throw tX11_82_112_86 dX11_river_44 dX11_river_47 dX11_river_48 dX11_river_50 dX11_river_53 (by decide) rfl rfl⟩
  · refine ex_s (fun _ => ev_iload_n dX11_river_38 rfl) ?_
    refine ex_s (fun _ => ev_bipush (v := nI 99) dX11_river_39 (by decide)) ?_
    refine ex_s (fun _ => ev_icmp_le_f (tgt := 54) dX11_river_41 (by decide) (fun q => absurd (Int32.le_trans (hy.resolve_left hc35) q) (by decide))) ?_
    exact ⟨_, _, (by exact ⟨rfl, hX3, fA⟩), ev_throw tX11_82_112_86 dX11_river_44 dX11_river_47 dX11_river_48 dX11_river_50 dX11_river_53 (by decide) rfl rfl⟩
set_option maxRecDepth 4000 in
theorem fX11_river_y {G : GX} {w : WS} {A : AS} (h : aX A w) {c r : Nat} (hc : c < 64) (hr : r < 100) : ∃ o w2, (pF ["java/lang/IndexOutOfBoundsException", "java/lang/IllegalArgumentException", "java/lang/IllegalStateException", "java/lang/UnsupportedOperationException"] (if 0 < stN (aN A) (aT A) 12 0 ∧ stN (aN A) (aT A) 12 0 = aN A then spCh (aC A) 4 (.inr (.inr (.inr (.inl (c, r, stN (aN A) (aT A) 12 0, stD (aN A) (aT A) 0))))) else ((3, 0), aC A)) w o w2) ∧ Big G 8 1 mX11_river [.ref 0, .int (nI c), .int (nI r)] w o w2 := by
  refine bx_of (P := pF ["java/lang/IndexOutOfBoundsException", "java/lang/IllegalArgumentException", "java/lang/IllegalStateException", "java/lang/UnsupportedOperationException"] (if 0 < stN (aN A) (aT A) 12 0 ∧ stN (aN A) (aT A) 12 0 = aN A then spCh (aC A) 4 (.inr (.inr (.inr (.inl (c, r, stN (aN A) (aT A) 12 0, stD (aN A) (aT A) 0))))) else ((3, 0), aC A)) w) (by decide +kernel) (Nat.le_of_ble_eq_true rfl) ?_
  show Ex G 8 1 mX11_river 0 [some (.ref 0), some (.int (nI c)), some (.int (nI r)), none] [] w _
  refine ex_s (fun _ => ev_aload_n dX11_river_0 rfl) ?_
  refine ex_s (fun _ => ev_getR fX11_32 dX11_river_1 (by decide) sh0 rfl) ?_
  refine ex_s (fun _ => ev_bipush (v := nI 114) dX11_river_4 (by decide)) ?_
  refine ex_s (fun _ => ev_iload_n dX11_river_6 rfl) ?_
  refine ex_s (fun _ => ev_iload_n dX11_river_7 rfl) ?_
  refine ex_s (fun _ => ev_callV kX11_89 co102 qX2_set dX11_river_8 rfl (by decide) (by decide) rfl) ?_
  refine ex_s (fun _ => ev_aload_n dX11_river_11 rfl) ?_
  refine ex_s (fun _ => ev_getR fX11_39 dX11_river_12 (by decide) sh0 rfl) ?_
  refine ex_s (fun _ => ev_aload_n dX11_river_15 rfl) ?_
  refine ex_s (fun _ => ev_getR fX11_32 dX11_river_16 (by decide) sh0 rfl) ?_
  have hX1 := aXG h (fr_wSet (by decide) : frG [(102, 103)] _ (wSet w (nI 114) (nI c) (nI r))) (by decide)
  obtain ⟨_, w3, ⟨rfl, k1, k2, k3⟩, hB3⟩ := qX7_isOnlySteps (G := G) hX1.2.2.2.1
  have f3 : frG [(102, 103), (106, 106)] (wSet w (nI 114) (nI c) (nI r)) w3 := frG_L k1 (by decide)
  have hX3 := aX_C (aXG hX1 f3 (by decide))
  have fA : frG [(0, 114)] w (cs_ w3 104 (upd (w3.1 104) 1 (nI 0))) := frG_cs (frG_tr (fr_wSet (by decide)) (frG_mo f3 (by decide))) (by decide) _
  refine ex_s (fun _ => ev_callV kX11_105 co106 hB3 dX11_river_19 rfl (by decide) (by decide) rfl) ?_
  refine ex_s (fun _ => ev_ist3 dX11_river_22 (by decide) rfl) ?_
  refine ex_s (fun _ => ev_aload_n dX11_river_23 rfl) ?_
  refine ex_s (fun _ => ev_getR fX11_47 dX11_river_24 (by decide) sh0 rfl) ?_
  refine ex_s (fun _ => ev_callV kX11_109 co104 qX9_clear_104 dX11_river_27 rfl (by decide) (by decide) rfl) ?_
  refine ex_s (fun _ => ev_iload_n dX11_river_30 rfl) ?_
  refine ex_s (fun _ => ev_callS kX11_74 (qX11_needCell_y hc) dX11_river_31 rfl (by decide) (by decide) rfl) ?_
  refine ex_s (fun _ => ev_iload_n dX11_river_34 rfl) ?_
  refine ex_s (fun _ => ev_if_lt_f (tgt := 44) dX11_river_35 (by decide) (nI_pos (by omega))) ?_
  refine ex_s (fun _ => ev_iload_n dX11_river_38 rfl) ?_
  refine ex_s (fun _ => ev_bipush (v := nI 99) dX11_river_39 (by decide)) ?_
  refine ex_s (fun _ => ev_icmp_le_t (tgt := 54) dX11_river_41 (by decide) (nI_le (by omega) (by decide))) ?_
  refine ex_s (fun _ => ev_iload_n dX11_river_54 rfl) ?_
  refine ex_b1 (fun _ => ev_ifb_ne (tgt := 68) dX11_river_55 (by decide)) (fun hc55 => ?_) (fun hc55 => ?_)
  · have hs : 0 < stN (aN A) (aT A) 12 0 ∧ stN (aN A) (aT A) 12 0 = aN A := of_decide_eq_true hc55
    refine ex_s (fun _ => ev_aload_n dX11_river_68 rfl) ?_
    rw [if_pos hs]
    have hX := hX3
    have hc0 : hC_ (cs_ w3 104 (upd (w3.1 104) 1 (nI 0))) (.inr (.inr (.inr (.inl (c, r, stN (aN A) (aT A) 12 0, stD (aN A) (aT A) 0))))) := ⟨k2.1, k2.2.1, k2.2.2, k3⟩
    obtain ⟨o, w3, ⟨p1, p2⟩, hB3⟩ := qX11_change (G := G) (aX_S hX) hc0 (show okC (.inr (.inr (.inr (.inl (c, r, stN (aN A) (aT A) 12 0, stD (aN A) (aT A) 0))))) from ⟨by omega, by omega, hs.1, k3.1, fun k hk => (stD_at hk).2⟩) (decide_eq_true hc) hX.2.2.1
    by_cases hg : grC (aS A) (.inr (.inr (.inr (.inl (c, r, stN (aN A) (aT A) 12 0, stD (aN A) (aT A) 0))))) = 0
    · obtain ⟨rfl, k1, k2, k3⟩ := p2 hg
      refine ex_s2 (fun _ => ev_callV kX11_93 co0 hB3 dX11_river_69 rfl (by decide) (by decide) rfl) ?_
      exact ⟨_, _, ch_y hX (fA) hg k1 k2 k3, ev_iret dX11_river_72 rfl rfl rfl rfl⟩
    · obtain ⟨rfl, k1, k2⟩ := p1 hg
      exact ⟨_, _, ch_n hX (fA) hg k1 k2 rfl, ev_callVx kX11_93 co0 hB3 dX11_river_69 rfl (by decide) (by decide) rfl rfl⟩
  · have hs : ¬ (0 < stN (aN A) (aT A) 12 0 ∧ stN (aN A) (aT A) 12 0 = aN A) := of_decide_eq_false hc55
    exact ⟨_, _, (by rw [if_neg hs]; exact ⟨rfl, hX3, fA⟩), ev_throw tX11_114_116_118 dX11_river_58 dX11_river_61 dX11_river_62 dX11_river_64 dX11_river_67 (by decide) rfl rfl⟩
theorem fX11_river {G : GX} {w : WS} {A : AS} (h : aX A w) (x y : Int32) : ∃ o w2, pF ["java/lang/IndexOutOfBoundsException", "java/lang/IllegalArgumentException", "java/lang/IllegalStateException", "java/lang/UnsupportedOperationException"] (spRiver A x y) w o w2 ∧ Big G 8 1 mX11_river [.ref 0, .int x, .int y] w o w2 := by
  unfold spRiver
  rcases ixN_or 64 (by decide) x with ⟨h1, e1⟩ | ⟨c, h1, rfl, e1⟩
  · rw [e1]; exact fX11_river_n h h1 y
  · rw [e1]
    dsimp only
    rcases ixN_or 100 (by decide) y with ⟨h2, e2⟩ | ⟨r, h2, rfl, e2⟩
    · rw [e2]; exact fX11_river_m h h1 h2
    · rw [e2]
      exact fX11_river_y h h1 h2
