/-! what a whole map is, with its memory; frames -/
def frG (R : List (Nat × Nat)) (w w2 : WS) : Prop := (∀ k, R.all (fun q => decide (k < q.1 ∨ q.2 < k)) = true → w2.1 k = w.1 k) ∧ w2.2 = w.2
theorem frG_rf {R : List (Nat × Nat)} {w : WS} : frG R w w := ⟨fun _ _ => rfl, rfl⟩
theorem frG_tr {R : List (Nat × Nat)} {w w1 w2 : WS} (h : frG R w w1) (h2 : frG R w1 w2) : frG R w w2 := ⟨fun k hk => (h2.1 k hk).trans (h.1 k hk), h2.2.trans h.2⟩
theorem frG_cs {R : List (Nat × Nat)} {w w1 : WS} (h : frG R w w1) {k : Nat} (hk : R.all (fun q => decide (k < q.1 ∨ q.2 < k)) = false) (f : Nat → Int32) : frG R w (cs_ w1 k f) := ⟨fun j hj => (cs_ne w1 f (fun q => by rw [q, hk] at hj; cases hj)).trans (h.1 j hj), h.2⟩
def subG (R R2 : List (Nat × Nat)) : Bool := R.all (fun q => R2.any (fun z => decide (z.1 ≤ q.1 ∧ q.2 ≤ z.2)))
theorem frG_mo {R R2 : List (Nat × Nat)} {w w2 : WS} (h : frG R w w2) (hs : subG R R2 = true) : frG R2 w w2 := ⟨fun k hk => h.1 k (List.all_eq_true.mpr (fun q hq => by
  obtain ⟨z, hz, hz2⟩ := List.any_eq_true.mp (List.all_eq_true.mp hs q hq)
  have h1 := of_decide_eq_true hz2
  have h2 := of_decide_eq_true (List.all_eq_true.mp hk z hz)
  exact decide_eq_true (by omega))), h.2⟩
theorem frG_L {L : List Nat} {R : List (Nat × Nat)} {w w2 : WS} (h : frL L w w2) (hs : L.all (fun k => R.any (fun z => decide (z.1 ≤ k ∧ k ≤ z.2))) = true) : frG R w w2 := ⟨fun k hk => h.1 k (fun q => by
  obtain ⟨z, hz, hz2⟩ := List.any_eq_true.mp (List.all_eq_true.mp hs k q)
  have h1 := of_decide_eq_true hz2
  have h2 := of_decide_eq_true (List.all_eq_true.mp hk z hz)
  omega), h.2⟩
theorem frG_1 {R : List (Nat × Nat)} {w w2 : WS} (h : fr1 w w2) (hs : subG [(1, 11)] R = true) : frG R w w2 := frG_mo ⟨fun k hk => h.1 k (by
  have := of_decide_eq_true (List.all_eq_true.mp hk (1, 11) (List.mem_cons_self))
  exact this), h.2⟩ hs
theorem frG_at {R : List (Nat × Nat)} {w w2 : WS} (h : frG R w w2) {k : Nat} (hk : R.all (fun q => decide (k < q.1 ∨ q.2 < k)) = true) : w2.1 k = w.1 k := h.1 k hk
def djG (R : List (Nat × Nat)) (lo hi : Nat) : Bool := R.all (fun q => decide (hi < q.1 ∨ q.2 < lo))
theorem frG_in {R : List (Nat × Nat)} {w w2 : WS} (h : frG R w w2) {lo hi : Nat} (hd : djG R lo hi = true) {k : Nat} (h1 : lo ≤ k) (h2 : k ≤ hi) : w2.1 k = w.1 k := h.1 k (List.all_eq_true.mpr (fun q hq => decide_eq_true (by
  have := of_decide_eq_true (List.all_eq_true.mp hd q hq)
  omega)))
theorem cmG {S : ST} {R : List (Nat × Nat)} {w w2 : WS} (h : cm_ S w) (hf : frG R w w2) (hd : djG R 1 11 = true) : cm_ S w2 := ⟨ch_eq h.1 (fun k h1 h2 => frG_in hf hd h1 h2), h.2⟩
theorem inG {n : Nat} {t : Nat → Nat} {R : List (Nat × Nat)} {w w2 : WS} (h : inA n t w) (hf : frG R w w2) (hd : djG R 104 105 = true) : inA n t w2 := by
  unfold inA at h ⊢
  rw [frG_in hf hd (k := 104) (by decide) (by decide), frG_in hf hd (k := 105) (by decide) (by decide)]
  exact h
/-- what was saved -/
def svA (V : Option ST) (w : WS) : Prop := (V = none → w.1 0 3 = nI 0) ∧ ∀ T, V = some T → w.1 0 3 = nI 1 ∧ chA T w 23 ∧ okS T
theorem svG {V : Option ST} {R : List (Nat × Nat)} {w w2 : WS} (h : svA V w) (hf : frG R w w2) (h0 : R.all (fun q => decide (0 < q.1 ∨ q.2 < 0)) = true) (hd : djG R 23 33 = true) : svA V w2 := by
  refine ⟨fun hv => ?_, fun T hT => ?_⟩
  · rw [frG_at hf h0]; exact h.1 hv
  · obtain ⟨h1, h2, h3⟩ := h.2 T hT
    exact ⟨by rw [frG_at hf h0]; exact h1, ch_eq h2 (fun k a b => frG_in hf hd a b), h3⟩
/-- the history -/
def hA (H : List ST) (w : WS) : Prop := ∃ o, o < 6 ∧ w.1 100 1 = nI o ∧ w.1 100 2 = nI H.length ∧ H.length ≤ 6 ∧ ∀ i T, H[i]? = some T → chA T w (1 + 11 * (3 + (o + i) % 6)) ∧ okS T
theorem hG {H : List ST} {R : List (Nat × Nat)} {w w2 : WS} (h : hA H w) (hf : frG R w w2) (hd : djG R 34 100 = true) : hA H w2 := by
  obtain ⟨o, h1, h2, h3, h4, h5⟩ := h
  have e := frG_in hf hd (k := 100) (by decide) (by decide)
  refine ⟨o, h1, by rw [e]; exact h2, by rw [e]; exact h3, h4, fun i T hT => ⟨ch_eq (h5 i T hT).1 (fun k a b => frG_in hf hd (by omega) (by omega)), (h5 i T hT).2⟩⟩
/-- a line -/
def lnA (l : List Nat) (w : WS) : Prop := w.1 107 1 = nI l.length ∧ l.length ≤ 40 ∧ ∀ i v, l[i]? = some v → w.1 108 i = nI v ∧ v < 128
theorem lnG {l : List Nat} {R : List (Nat × Nat)} {w w2 : WS} (h : lnA l w) (hf : frG R w w2) (hd : djG R 107 108 = true) : lnA l w2 := by
  unfold lnA at h ⊢
  rw [frG_in hf hd (k := 107) (by decide) (by decide), frG_in hf hd (k := 108) (by decide) (by decide)]
  exact h
/-- the reasons -/
def kA (K : List (Int32 × Int32)) (w : WS) : Prop := w.1 109 2 = nI K.length ∧ K.length ≤ 3 ∧ ∀ i x, K[i]? = some x → w.1 110 i = x.1 ∧ w.1 111 i = x.2
theorem kG {K : List (Int32 × Int32)} {R : List (Nat × Nat)} {w w2 : WS} (h : kA K w) (hf : frG R w w2) (hd : djG R 109 111 = true) : kA K w2 := by
  unfold kA at h ⊢
  rw [frG_in hf hd (k := 109) (by decide) (by decide), frG_in hf hd (k := 110) (by decide) (by decide), frG_in hf hd (k := 111) (by decide) (by decide)]
  exact h
theorem kA_0 {w : WS} : kA [] (wKc w) := ⟨rfl, by decide, fun i x h => by simp at h⟩
theorem kA_s {K : List (Int32 × Int32)} {w : WS} (h : kA K w) (hl : K.length < 3) (x y : Int32) : kA (K ++ [(x, y)]) (wKa w K.length x y) := by
  obtain ⟨h1, h2, h3⟩ := h
  refine ⟨by simp [wKa, cs_, upd], by simp; omega, fun i z hz => ?_⟩
  show upd (w.1 110) K.length x i = z.1 ∧ upd (w.1 111) K.length y i = z.2
  unfold upd
  by_cases e : i = K.length
  · subst e
    simp at hz
    subst hz
    simp
  · rw [if_neg e, if_neg e]
    apply h3
    rw [List.getElem?_append] at hz
    split at hz
    · exact hz
    · rw [List.getElem?_singleton] at hz
      split at hz
      · omega
      · cases hz
theorem fr_wKa {w : WS} {n : Nat} {x y : Int32} : frG [(109, 111)] w (wKa w n x y) := frG_cs (frG_cs (frG_cs frG_rf (by decide) _) (by decide) _) (by decide) _
theorem fr_wKc {w : WS} : frG [(109, 111)] w (wKc w) := frG_cs frG_rf (by decide) _
theorem hCG {q : Cmd} {R : List (Nat × Nat)} {w w2 : WS} (h : hC_ w q) (hf : frG R w w2) (hd : djG R 102 103 = true) : hC_ w2 q := by
  have e1 := frG_in hf hd (k := 102) (by decide) (by decide)
  have e2 := frG_in hf hd (k := 103) (by decide) (by decide)
  rcases q with ⟨c, v⟩ | ⟨c, r⟩ | m | ⟨c, t, l, ds⟩ | i | ⟨c, p⟩ | i
  · simp only [hC_, e1] at h ⊢; exact h
  · simp only [hC_, e1] at h ⊢; exact h
  · simp only [hC_, e1] at h ⊢; exact h
  · simp only [hC_, cs2_, e1, e2] at h ⊢; exact h
  · simp only [hC_, e1] at h ⊢; exact h
  · simp only [hC_, e1] at h ⊢; exact h
  · simp only [hC_, e1] at h ⊢; exact h
/-! the detail to a ground -/
def cmC : Cmd → Nat
  | .inl (c, _) => c
  | .inr (.inl (c, _)) => c
  | .inr (.inr (.inl _)) => 0
  | .inr (.inr (.inr (.inl (c, _, _, _)))) => c
  | .inr (.inr (.inr (.inr (.inl _)))) => 0
  | .inr (.inr (.inr (.inr (.inr (.inl (c, _)))))) => c
  | .inr (.inr (.inr (.inr (.inr (.inr _))))) => 0
def cmV : Cmd → Int32
  | .inl (_, v) => v
  | .inr (.inl (_, r)) => nI r
  | .inr (.inr (.inl m)) => nI m
  | .inr (.inr (.inr (.inl (_, t, _, _)))) => nI t
  | .inr (.inr (.inr (.inr (.inl i)))) => nI i
  | .inr (.inr (.inr (.inr (.inr (.inl (_, p)))))) => nI p
  | .inr (.inr (.inr (.inr (.inr (.inr i))))) => nI i
/-- the detail to ground g -/
def dtC (S : ST) (q : Cmd) (g : Nat) : Int32 :=
  if g = 1 ∨ g = 4 then cmV q else if g = 2 ∨ g = 3 then nI (cmC q) else if g = 5 then sO S (cmC q)
  else if g = 6 then (match q with
    | .inr (.inr (.inr (.inl _))) => nI 4
    | _ => nI 5)
  else if g = 7 then (match q with
    | .inr (.inr (.inr (.inl (c, _, l, ds)))) => oI (lv_ c ds l)
    | _ => -1)
  else if g = 8 then oI (dOn S (cmC q)) else sC S (oN_ (sO S (cmC q)))
/-- grounds that a command can meet -/
def psb (S : ST) : Cmd → Nat → Prop
  | .inl _, g => g = 1
  | .inr (.inl _), g => 1 ≤ g ∧ g ≤ 5
  | .inr (.inr (.inl _)), g => g = 1
  | .inr (.inr (.inr (.inl _))), g => g = 6 ∨ g = 7
  | .inr (.inr (.inr (.inr (.inl _)))), _ => False
  | .inr (.inr (.inr (.inr (.inr (.inl (c, _)))))), g => g = 3 ∨ g = 6 ∨ g = 8 ∨ (g = 9 ∧ sO S c ≠ -1)
  | .inr (.inr (.inr (.inr (.inr (.inr _))))), _ => False
theorem shS_le (S : ST) (c : Nat) (r : Int32) : shS S c r ≤ 5 ∧ shS S c r ≠ 2 := by
  unfold shS
  (repeat' split) <;> decide
theorem psb_of {S : ST} {q : Cmd} (h : grC S q ≠ 0) : psb S q (grC S q) := by
  rcases q with ⟨c, v⟩ | ⟨c, r⟩ | m | ⟨c, t, l, ds⟩ | i | ⟨c, p⟩ | i
  · simp only [grC, psb] at h ⊢
    split at h
    · rename_i e; rw [if_pos e]
    · exact absurd rfl h
  · have h5 := shS_le S c (nI r)
    simp only [grC, psb] at h ⊢
    split
    · rename_i e
      rw [if_pos e] at h
      omega
    · decide
  · simp only [grC, psb] at h ⊢
    split at h
    · rename_i e; rw [if_pos e]
    · exact absurd rfl h
  · simp only [grC, psb, rvS] at h ⊢
    split at h
    · rename_i e; rw [if_pos e]; exact Or.inl rfl
    · rename_i e
      rw [if_neg e]
      split at h
      · rename_i e2; rw [if_pos e2]; exact Or.inr rfl
      · exact absurd rfl h
  · exact absurd rfl h
  · simp only [grC, psb, drS] at h ⊢
    split at h
    · rename_i e; rw [if_pos e]; exact Or.inl rfl
    · rename_i e
      rw [if_neg e]
      split at h
      · rename_i e2; rw [if_pos e2]; exact Or.inr (Or.inr (Or.inl rfl))
      · rename_i e2
        rw [if_neg e2]
        split at h
        · rename_i e3; rw [if_pos e3]; exact Or.inr (Or.inl rfl)
        · rename_i e3
          rw [if_neg e3]
          split at h
          · rename_i e4; rw [if_pos e4]; exact Or.inr (Or.inr (Or.inr ⟨rfl, e⟩))
          · exact absurd rfl h
  · exact absurd rfl h
theorem qX5_detail {G : GX} {w : WS} {S : ST} (hS : cm_ S w) {q : Cmd} (hc : hC_ w q) (ht : thC S q = true) {g : Nat} (hg : psb S q g) : Big G 4 0 mX5_detail [.ref 1, .ref 102, .int (nI g)] w (.inl (some (.int (dtC S q g)))) w := by
  rcases q with ⟨c, v⟩ | ⟨c, r⟩ | m | ⟨c, t, l, ds⟩ | i | ⟨c, p⟩ | i
  · have hg : g = 1 := hg
    subst hg
    exact qX5_detail_1 hc.2.2
  · have hg : 1 ≤ g ∧ g ≤ 5 := hg
    have hx : c < 64 := of_decide_eq_true ht
    obtain rfl | rfl | rfl | rfl | rfl : g = 1 ∨ g = 2 ∨ g = 3 ∨ g = 4 ∨ g = 5 := by omega
    · exact qX5_detail_1 hc.2.2
    · exact qX5_detail_2 hc.2.1
    · exact qX5_detail_3 hc.2.1
    · exact qX5_detail_4 hc.2.2
    · exact qX5_detail_5 hS hc.2.1 hx
  · have hg : g = 1 := hg
    subst hg
    exact qX5_detail_1 hc.2
  · have hx : c < 64 := of_decide_eq_true ht
    rcases hg with hg | hg
    · subst hg
      exact qX5_detail_6r hc.1
    · subst hg
      exact qX5_detail_7 hc.2.1 hx hc.2.2.2
  · exact hg.elim
  · have hx : c < 64 := (th_c ht).1
    rcases hg with hg | hg | hg | ⟨hg, hn⟩
    · subst hg
      exact qX5_detail_3 hc.2.1
    · subst hg
      exact qX5_detail_6d hc.1
    · subst hg
      exact qX5_detail_8 hS hc.2.1 hx
    · subst hg
      obtain ⟨a, ha, hoa, hon⟩ := ow_ hS.2 hx hn
      have := qX5_detail_9 (G := G) hS hc.2.1 hx ha hoa
      rw [← hon] at this
      exact this
  · exact hg.elim
/-- what is kept when a command is refused -/
def kpC (S : ST) (q : Cmd) : List (Int32 × Int32) := (nI (grC S q), dtC S q (grC S q)) :: (if grC S q = 2 then [(nI (shS S (cmC q) (cmV q)), dtC S q (shS S (cmC q) (cmV q)))] else [])
theorem gr_2 {S : ST} {q : Cmd} (h : grC S q = 2) : ∃ c r, q = .inr (.inl (c, r)) ∧ ¬ (shS S c (nI r) = 0 ∨ shS S c (nI r) = 1) := by
  have hp := psb_of (S := S) (q := q) (by omega)
  rw [h] at hp
  rcases q with ⟨c, v⟩ | ⟨c, r⟩ | m | ⟨c, t, l, ds⟩ | i | ⟨c, p⟩ | i
  · have hp : (2 : Nat) = 1 := hp
    omega
  · refine ⟨c, r, rfl, fun q => ?_⟩
    simp only [grC] at h
    rw [if_pos q] at h
    omega
  · have hp : (2 : Nat) = 1 := hp
    omega
  · have hp : (2 : Nat) = 6 ∨ (2 : Nat) = 7 := hp
    omega
  · exact hp.elim
  · have hp : (2 : Nat) = 3 ∨ (2 : Nat) = 6 ∨ (2 : Nat) = 8 ∨ ((2 : Nat) = 9 ∧ _) := hp
    omega
  · exact hp.elim
def pKp (K : List (Int32 × Int32)) (S : ST) (q : Cmd) (w : WS) : OT → WS → Prop := fun o w2 => o = .inl none ∧ kA (K ++ kpC S q) w2 ∧ frG [(109, 111)] w w2
theorem grC_le {S : ST} {q : Cmd} : grC S q < 10 := by
  by_cases h : grC S q = 0
  · omega
  · have hp := psb_of h
    rcases q with ⟨c, v⟩ | ⟨c, r⟩ | m | ⟨c, t, l, ds⟩ | i | ⟨c, p⟩ | i
    · have hp : grC S (.inl (c, v)) = 1 := hp
      omega
    · have hp : 1 ≤ grC S (.inr (.inl (c, r))) ∧ grC S (.inr (.inl (c, r))) ≤ 5 := hp
      omega
    · have hp : grC S (.inr (.inr (.inl m))) = 1 := hp
      omega
    · have hp : grC S (.inr (.inr (.inr (.inl (c, t, l, ds))))) = 6 ∨ grC S (.inr (.inr (.inr (.inl (c, t, l, ds))))) = 7 := hp
      omega
    · exact hp.elim
    · rcases hp with hp | hp | hp | ⟨hp, -⟩ <;> omega
    · exact hp.elim
set_option maxRecDepth 4000 in
theorem qX11_keep {G : GX} {w : WS} {S : ST} (hS : cm_ S w) {q : Cmd} (hc : hC_ w q) (ht : thC S q = true) {g : Nat} (hg : grC S q = g) (h0 : g ≠ 0) {K : List (Int32 × Int32)} (hK : kA K w) (hl : K.length ≤ 1) : ∃ o w2, (pKp K S q w o w2) ∧ Big G 5 0 mX11_keep [.ref 0, .int (nI g)] w o w2 := by
  have hp : psb S q g := by rw [← hg]; exact psb_of (by rw [hg]; exact h0)
  have g10 : g < 10 := by rw [← hg]; exact grC_le
  refine bx_of (P := pKp K S q w) (by decide +kernel) (Nat.le_of_ble_eq_true rfl) ?_
  show Ex G 5 0 mX11_keep 0 [some (.ref 0), some (.int (nI g)), none] [] w _
  refine ex_s (fun _ => ev_aload_n dX11_keep_0 rfl) ?_
  refine ex_s (fun _ => ev_getR fX11_59 dX11_keep_1 (by decide) sh0 rfl) ?_
  refine ex_s (fun _ => ev_iload_n dX11_keep_4 rfl) ?_
  refine ex_s (fun _ => ev_aload_n dX11_keep_5 rfl) ?_
  refine ex_s (fun _ => ev_getR fX11_10 dX11_keep_6 (by decide) sh0 rfl) ?_
  refine ex_s (fun _ => ev_aload_n dX11_keep_9 rfl) ?_
  refine ex_s (fun _ => ev_getR fX11_32 dX11_keep_10 (by decide) sh0 rfl) ?_
  refine ex_s (fun _ => ev_iload_n dX11_keep_13 rfl) ?_
  refine ex_s (fun _ => ev_callS kX11_429 (qX5_detail hS hc ht hp) dX11_keep_14 rfl (by decide) (by decide) rfl) ?_
  refine ex_s (fun _ => ev_callV kX11_422 co109 (qX8_add hK.1 (by omega)) dX11_keep_17 rfl (by decide) (by decide) rfl) ?_
  refine ex_s (fun _ => ev_iload_n dX11_keep_20 rfl) ?_
  refine ex_s (fun _ => ev_iconst dX11_keep_21 ic2) ?_
  refine ex_bn (fun _ => ev_icmp_ne (tgt := 67) dX11_keep_22 (by decide)) (fun hc22 => ?_) (fun hc22 => ?_)
  · have e22 : ¬ g = 2 := fun q => hc22 (by rw [q])
    exact ⟨_, _, (by exact ⟨rfl, by unfold kpC; rw [hg, if_neg e22]; exact kA_s hK (by omega) _ _, fr_wKa⟩), ev_vret dX11_keep_67 rfl rfl rfl⟩
  · have e22 : g = 2 := nI_inj (by omega) (by decide) hc22
    subst e22
    obtain ⟨c, r, rfl, hsh⟩ := gr_2 hg
    have hx : c < 64 := of_decide_eq_true ht
    have h5 := shS_le S c (nI r)
    have hS1 : cm_ S (wKa w K.length (nI 2) (dtC S (.inr (.inl (c, r))) 2)) := cmG hS fr_wKa (by decide)
    have hc1 := hCG hc (fr_wKa (n := K.length) (x := nI 2) (y := dtC S (.inr (.inl (c, r))) 2)) (by decide)
    have hK1 := kA_s hK (by omega) (nI 2) (dtC S (.inr (.inl (c, r))) 2)
    refine ex_s (fun _ => ev_aload_n dX11_keep_25 rfl) ?_
    refine ex_s (fun _ => ev_getR fX11_10 dX11_keep_26 (by decide) sh0 rfl) ?_
    refine ex_s (fun _ => ev_aload_n dX11_keep_29 rfl) ?_
    refine ex_s (fun _ => ev_getR fX11_32 dX11_keep_30 (by decide) sh0 rfl) ?_
    refine ex_s (fun _ => ev_getI fX11_433 dX11_keep_33 (by decide) sh102 rfl) ?_
    refine ex_s (fun _ => ev_top hc1.2.1) ?_
    refine ex_s (fun _ => ev_aload_n dX11_keep_36 rfl) ?_
    refine ex_s (fun _ => ev_getR fX11_32 dX11_keep_37 (by decide) sh0 rfl) ?_
    refine ex_s (fun _ => ev_getI fX11_436 dX11_keep_40 (by decide) sh102 rfl) ?_
    refine ex_s (fun _ => ev_top hc1.2.2) ?_
    refine ex_s (fun _ => ev_callS kX11_216 (qX5_againstShaving hS1 hx) dX11_keep_43 rfl (by decide) (by decide) rfl) ?_
    refine ex_s (fun _ => ev_ist2 dX11_keep_46 (by decide) rfl) ?_
    refine ex_s (fun _ => ev_aload_n dX11_keep_47 rfl) ?_
    refine ex_s (fun _ => ev_getR fX11_59 dX11_keep_48 (by decide) sh0 rfl) ?_
    refine ex_s (fun _ => ev_iload_n dX11_keep_51 rfl) ?_
    refine ex_s (fun _ => ev_aload_n dX11_keep_52 rfl) ?_
    refine ex_s (fun _ => ev_getR fX11_10 dX11_keep_53 (by decide) sh0 rfl) ?_
    refine ex_s (fun _ => ev_aload_n dX11_keep_56 rfl) ?_
    refine ex_s (fun _ => ev_getR fX11_32 dX11_keep_57 (by decide) sh0 rfl) ?_
    refine ex_s (fun _ => ev_iload_n dX11_keep_60 rfl) ?_
    refine ex_s (fun _ => ev_callS kX11_429 (qX5_detail hS1 hc1 ht (g := shS S c (nI r)) (show 1 ≤ shS S c (nI r) ∧ shS S c (nI r) ≤ 5 by omega)) dX11_keep_61 rfl (by decide) (by decide) rfl) ?_
    refine ex_s (fun _ => ev_callV kX11_422 co109 (qX8_add (n := K.length + 1) (hK1.1.trans (by rw [List.length_append]; rfl)) (by omega)) dX11_keep_64 rfl (by decide) (by decide) rfl) ?_
    exact ⟨_, _, (by exact ⟨rfl, by unfold kpC; rw [hg, if_pos rfl]; have := kA_s hK1 (by rw [List.length_append]; show K.length + 1 < 3; omega) (nI (shS S c (nI r))) (dtC S (.inr (.inl (c, r))) (shS S c (nI r))); rw [List.append_assoc, List.length_append] at this; exact this, frG_tr fr_wKa fr_wKa⟩), ev_vret dX11_keep_67 rfl rfl rfl⟩
/-! the history: one more, one less -/
def hPush (H : List ST) (S : ST) : List ST := (if H.length < 6 then H else H.tail) ++ [S]
theorem fr_wRe {w : WS} {o c j : Nat} (ho : o < 6) : frG [(34, 100)] w (wRe w o c j) := by
  unfold wRe
  split
  · refine frG_cs (w := w) (w1 := cpW w (3 + (o + c) % 6) j) (R := [(34, 100)]) (k := 100) ⟨fun k hk => ?_, rfl⟩ (by decide) _
    have := of_decide_eq_true (List.all_eq_true.mp hk (34, 100) (List.mem_cons_self))
    exact cpW_n (by omega)
  · refine frG_cs (w := w) (w1 := cpW (cs_ (cs_ w 100 (upd (w.1 100) 1 (nI ((o + 1) % 6)))) 100 (upd (upd (w.1 100) 1 (nI ((o + 1) % 6))) 2 (nI 5))) (3 + o) j) (R := [(34, 100)]) (k := 100) ⟨fun k hk => ?_, rfl⟩ (by decide) _
    have := of_decide_eq_true (List.all_eq_true.mp hk (34, 100) (List.mem_cons_self))
    rw [cpW_n (by omega), cs_ne _ _ (by omega), cs_ne _ _ (by omega)]
theorem hA_re {H : List ST} {w : WS} {S : ST} {o j : Nat} (h6 : o < 6) (ho : w.1 100 1 = nI o) (hl : H.length ≤ 6) (hh : ∀ i T, H[i]? = some T → chA T w (1 + 11 * (3 + (o + i) % 6)) ∧ okS T) (hj : j < 3) (hS : chA S w (1 + 11 * j)) (hk : okS S) : hA (hPush H S) (wRe w o H.length j) := by
  unfold hPush wRe
  by_cases e : H.length < 6
  · rw [if_pos e, if_pos e]
    refine ⟨o, h6, ?_, by rw [List.length_append]; rfl, by rw [List.length_append]; show H.length + 1 ≤ 6; omega, fun i T hT => ?_⟩
    · show upd (w.1 100) 2 (nI (H.length + 1)) 1 = _
      exact ho
    · rw [List.getElem?_append] at hT
      split at hT
      · rename_i hi
        obtain ⟨h1, h2⟩ := hh i T hT
        exact ⟨ch_eq (ch_cpo h1 (i := 3 + (o + H.length) % 6) (j := j) (by omega)) (fun k a b => cs_ne _ _ (by omega)), h2⟩
      · rename_i hi
        rw [List.getElem?_singleton] at hT
        split at hT
        · cases hT
          obtain rfl : i = H.length := by omega
          exact ⟨ch_eq (ch_cp hS hk) (fun k a b => cs_ne _ _ (by omega)), hk⟩
        · cases hT
  · rw [if_neg e, if_neg e]
    refine ⟨(o + 1) % 6, by omega, rfl, ?_, ?_, fun i T hT => ?_⟩
    · rw [List.length_append, List.length_tail]
      show nI 6 = _
      congr 1
      show 6 = H.length - 1 + 1
      omega
    · rw [List.length_append, List.length_tail]
      show H.length - 1 + 1 ≤ 6
      omega
    · have hw : ∀ (B : Nat) (V : ST), 1 ≤ B → B + 10 < 100 → chA V w B → chA V (cs_ (cs_ w 100 (upd (w.1 100) 1 (nI ((o + 1) % 6)))) 100 (upd (upd (w.1 100) 1 (nI ((o + 1) % 6))) 2 (nI 5))) B := fun B V h1 h2 h3 => ch_eq h3 (fun k a b => by rw [cs_ne _ _ (by omega), cs_ne _ _ (by omega)])
      rw [List.getElem?_append, List.length_tail] at hT
      split at hT
      · rename_i hi
        rw [List.getElem?_tail] at hT
        obtain ⟨h1, h2⟩ := hh (i + 1) T hT
        have e1 : (o + (i + 1)) % 6 = ((o + 1) % 6 + i) % 6 := by omega
        rw [e1] at h1
        exact ⟨ch_eq (ch_cpo (hw _ _ (by omega) (by omega) h1) (i := 3 + o) (j := j) (by omega)) (fun k a b => cs_ne _ _ (by omega)), h2⟩
      · rename_i hi
        rw [List.getElem?_singleton] at hT
        split at hT
        · cases hT
          have e1 : ((o + 1) % 6 + i) % 6 = o := by omega
          rw [e1]
          exact ⟨ch_eq (ch_cp (hw _ _ (by omega) (by omega) hS) hk) (fun k a b => cs_ne _ _ (by omega)), hk⟩
        · cases hT
theorem hA_tb {H : List ST} {w : WS} {o c : Nat} (h6 : o < 6) (ho : w.1 100 1 = nI o) (hl : H.length ≤ 6) (hh : ∀ i T, H[i]? = some T → chA T w (1 + 11 * (3 + (o + i) % 6)) ∧ okS T) (hc : H.length = c + 1) : hA H.dropLast (cs_ (cpW w 0 (3 + (o + c) % 6)) 100 (upd (w.1 100) 2 (nI c))) ∧ ∃ T, H[c]? = some T ∧ cm_ T (cs_ (cpW w 0 (3 + (o + c) % 6)) 100 (upd (w.1 100) 2 (nI c))) := by
  constructor
  · refine ⟨o, h6, ?_, by rw [List.length_dropLast, hc]; rfl, by rw [List.length_dropLast]; omega, fun i T hT => ?_⟩
    · show upd (w.1 100) 2 (nI c) 1 = _
      exact ho
    · rw [List.getElem?_dropLast] at hT
      split at hT
      · obtain ⟨h1, h2⟩ := hh i T hT
        exact ⟨ch_eq (ch_cpo h1 (i := 0) (j := 3 + (o + c) % 6) (by omega)) (fun k a b => cs_ne _ _ (by omega)), h2⟩
      · cases hT
  · obtain ⟨T, hT⟩ : ∃ T, H[c]? = some T := ⟨H[c]'(by omega), List.getElem?_eq_getElem (by omega)⟩
    obtain ⟨h1, h2⟩ := hh c T hT
    exact ⟨T, hT, ch_eq (ch_cp (i := 0) h1 h2) (fun k a b => cs_ne _ _ (by omega)), h2⟩
def pCh (S : ST) (H : List ST) (q : Cmd) (w : WS) : OT → WS → Prop := fun o w2 => (grC S q ≠ 0 → o = .inr "java/lang/UnsupportedOperationException" ∧ kA (kpC S q) w2 ∧ frG [(109, 111)] w w2) ∧ (grC S q = 0 → o = .inl (some (.int (crt S q))) ∧ cm_ (cdo S q) w2 ∧ hA (hPush H S) w2 ∧ frG [(1, 11), (34, 100)] w w2)
set_option maxRecDepth 4000 in
theorem qX11_change {G : GX} {w : WS} {S : ST} (hS : cm_ S w) {q : Cmd} (hc : hC_ w q) (ho : okC q) (ht : thC S q = true) {H : List ST} (hH : hA H w) : ∃ o w2, (pCh S H q w o w2) ∧ Big G 6 1 mX11_change [.ref 0] w o w2 := by
  refine bx_of (P := pCh S H q w) (by decide +kernel) (Nat.le_of_ble_eq_true rfl) ?_
  show Ex G 6 1 mX11_change 0 [some (.ref 0), none] [] w _
  refine ex_s (fun _ => ev_aload_n dX11_change_0 rfl) ?_
  refine ex_s (fun _ => ev_getR fX11_10 dX11_change_1 (by decide) sh0 rfl) ?_
  refine ex_s (fun _ => ev_aload_n dX11_change_4 rfl) ?_
  refine ex_s (fun _ => ev_getR fX11_32 dX11_change_5 (by decide) sh0 rfl) ?_
  refine ex_s (fun _ => ev_callS kX11_399 (qX5_against hS hc ht) dX11_change_8 rfl (by decide) (by decide) rfl) ?_
  refine ex_s (fun _ => ev_ist1 dX11_change_11 (by decide) rfl) ?_
  refine ex_s (fun _ => ev_iload_n dX11_change_12 rfl) ?_
  refine ex_bp (fun _ => ev_if_eq (tgt := 39) dX11_change_13 (by decide)) (fun hc13 => ?_) (fun hc13 => ?_)
  · have e13 : grC S q = 0 := nI_inj (by have := grC_le (S := S) (q := q); omega) (by decide) hc13
    obtain ⟨o, h6, ho1, hn, hl, hh⟩ := hH
    have hfr : frG [(34, 100)] w (wRe w o H.length 0) := fr_wRe h6
    obtain ⟨w3, hB3, k1, k2⟩ := qX1_carryOut (G := G) (w := wRe w o H.length 0) (cmG hS hfr (by decide)) (hCG hc hfr (by decide)) ho ht e13
    refine ex_s (fun _ => ev_aload_n dX11_change_39 rfl) ?_
    refine ex_s (fun _ => ev_getR fX11_25 dX11_change_40 (by decide) sh0 rfl) ?_
    refine ex_s (fun _ => ev_aload_n dX11_change_43 rfl) ?_
    refine ex_s (fun _ => ev_getR fX11_10 dX11_change_44 (by decide) sh0 rfl) ?_
    refine ex_s (fun _ => ev_callV kX11_352 co100 (qX4_remember (j := 0) ho1 h6 hn hl (by decide)) dX11_change_47 rfl (by decide) (by decide) rfl) ?_
    refine ex_s (fun _ => ev_aload_n dX11_change_50 rfl) ?_
    refine ex_s (fun _ => ev_getR fX11_10 dX11_change_51 (by decide) sh0 rfl) ?_
    refine ex_s (fun _ => ev_aload_n dX11_change_54 rfl) ?_
    refine ex_s (fun _ => ev_getR fX11_32 dX11_change_55 (by decide) sh0 rfl) ?_
    refine ex_s (fun _ => ev_callV kX11_409 co1 hB3 dX11_change_58 rfl (by decide) (by decide) rfl) ?_
    exact ⟨_, _, (by exact ⟨fun q => absurd e13 q, fun _ => ⟨rfl, ⟨k1, ok_do hS.2 ho ht e13⟩, hG (hA_re h6 ho1 hl hh (j := 0) (by decide) hS.1 hS.2) (frG_1 k2 (R := [(1, 11)]) (by decide)) (by decide), frG_tr (frG_mo hfr (by decide)) (frG_1 k2 (by decide))⟩⟩), ev_iret dX11_change_61 rfl rfl rfl rfl⟩
  · have e13 : grC S q ≠ 0 := fun q => hc13 (by rw [q]; rfl)
    obtain ⟨_, w3, ⟨rfl, k1, k2⟩, hB3⟩ := qX11_keep (G := G) (w := wKc w) (cmG hS fr_wKc (by decide)) (hCG hc fr_wKc (by decide)) ht rfl e13 kA_0 (by decide)
    refine ex_s (fun _ => ev_aload_n dX11_change_16 rfl) ?_
    refine ex_s (fun _ => ev_getR fX11_59 dX11_change_17 (by decide) sh0 rfl) ?_
    refine ex_s (fun _ => ev_callV kX11_403 co109 qX8_clear dX11_change_20 rfl (by decide) (by decide) rfl) ?_
    refine ex_s (fun _ => ev_aload_n dX11_change_23 rfl) ?_
    refine ex_s (fun _ => ev_iload_n dX11_change_24 rfl) ?_
    refine ex_s (fun _ => ev_callV kX11_404 co0 hB3 dX11_change_25 rfl (by decide) (by decide) rfl) ?_
    exact ⟨_, _, (by exact ⟨fun _ => ⟨rfl, k1, frG_tr fr_wKc k2⟩, fun q => absurd q e13⟩), ev_throwW tX11_347_407_351 dX11_change_28 dX11_change_31 dX11_change_32 dX11_change_35 dX11_change_38 (by decide) rfl rfl⟩
set_option maxRecDepth 4000 in
theorem qX11_needCell_y {G : GX} {w : WS} {k : Nat} (hk : k < 64) : Big G 2 0 mX11_needCell [.int (nI k)] w (.inl none) w := by
  refine big_of (by decide +kernel) (Nat.le_of_ble_eq_true rfl) ?_
  show Ev G 2 0 mX11_needCell 0 [some (.int (nI k))] [] w _
  refine ev_iload_n dX11_needCell_0 rfl ?_
  refine ev_callS kX11_382 (qX11_isCell_y hk) dX11_needCell_1 rfl (by decide) (by decide) rfl ?_
  refine ev_if_ne_t (tgt := 18) dX11_needCell_4 (by decide) (by decide) ?_
  exact ev_vret dX11_needCell_18 rfl rfl rfl
set_option maxRecDepth 4000 in
theorem qX11_needCell_n {G : GX} {w : WS} {x : Int32} (hx : out_ 64 x) : Big G 2 1 mX11_needCell [.int x] w (.inr "java/lang/IndexOutOfBoundsException") w := by
  refine big_of (by decide +kernel) (Nat.le_of_ble_eq_true rfl) ?_
  show Ev G 2 1 mX11_needCell 0 [some (.int x)] [] w _
  refine ev_iload_n dX11_needCell_0 rfl ?_
  refine ev_callS kX11_382 (qX11_isCell_n hx) dX11_needCell_1 rfl (by decide) (by decide) rfl ?_
  refine ev_if_ne_f (tgt := 18) dX11_needCell_4 (by decide) rfl ?_
  exact ev_throwW tX11_267_385_271 dX11_needCell_7 dX11_needCell_10 dX11_needCell_11 dX11_needCell_14 dX11_needCell_17 (by decide) rfl rfl
set_option maxRecDepth 4000 in
theorem qX11_needRealm_y {G : GX} {w : WS} {k : Nat} (hk : k < 4) : Big G 2 0 mX11_needRealm [.int (nI k)] w (.inl none) w := by
  refine big_of (by decide +kernel) (Nat.le_of_ble_eq_true rfl) ?_
  show Ev G 2 0 mX11_needRealm 0 [some (.int (nI k))] [] w _
  refine ev_iload_n dX11_needRealm_0 rfl ?_
  refine ev_callS kX11_78 (qX11_isRealm_y hk) dX11_needRealm_1 rfl (by decide) (by decide) rfl ?_
  refine ev_if_ne_t (tgt := 17) dX11_needRealm_4 (by decide) (by decide) ?_
  exact ev_vret dX11_needRealm_17 rfl rfl rfl
set_option maxRecDepth 4000 in
theorem qX11_needRealm_n {G : GX} {w : WS} {x : Int32} (hx : out_ 4 x) : Big G 2 1 mX11_needRealm [.int x] w (.inr "java/lang/IndexOutOfBoundsException") w := by
  refine big_of (by decide +kernel) (Nat.le_of_ble_eq_true rfl) ?_
  show Ev G 2 1 mX11_needRealm 0 [some (.int x)] [] w _
  refine ev_iload_n dX11_needRealm_0 rfl ?_
  refine ev_callS kX11_78 (qX11_isRealm_n hx) dX11_needRealm_1 rfl (by decide) (by decide) rfl ?_
  refine ev_if_ne_f (tgt := 17) dX11_needRealm_4 (by decide) rfl ?_
  exact ev_throw tX11_267_84_271 dX11_needRealm_7 dX11_needRealm_10 dX11_needRealm_11 dX11_needRealm_13 dX11_needRealm_16 (by decide) rfl rfl
set_option maxRecDepth 4000 in
theorem qX11_needCrease_y {G : GX} {w : WS} {k : Nat} (h1 : 1 ≤ k) (hk : k < 8) : Big G 1 0 mX11_needCrease [.int (nI k)] w (.inl none) w := by
  refine big_of (by decide +kernel) (Nat.le_of_ble_eq_true rfl) ?_
  show Ev G 1 0 mX11_needCrease 0 [some (.int (nI k))] [] w _
  refine ev_iload_n dX11_needCrease_0 rfl ?_
  refine ev_iconst dX11_needCrease_1 ic1 ?_
  refine ev_icmp_lt_f (tgt := 11) dX11_needCrease_2 (by decide) (nI_lt1 h1 (by omega)) ?_
  refine ev_iload_n dX11_needCrease_5 rfl ?_
  refine ev_bipush (v := nI 8) dX11_needCrease_6 (by decide) ?_
  refine ev_icmp_lt_t (tgt := 22) dX11_needCrease_8 (by decide) ((pk_lt' (by omega) (by decide)).mpr hk) ?_
  exact ev_vret dX11_needCrease_22 rfl rfl rfl
set_option maxRecDepth 4000 in
theorem qX11_needCrease_n {G : GX} {w : WS} {x : Int32} (hx : x < nI 1 ∨ nI 8 ≤ x) : Big G 1 1 mX11_needCrease [.int x] w (.inr "java/lang/IllegalArgumentException") w := by
  refine big_of (by decide +kernel) (Nat.le_of_ble_eq_true rfl) ?_
  show Ev G 1 1 mX11_needCrease 0 [some (.int x)] [] w _
  refine ev_iload_n dX11_needCrease_0 rfl ?_
  refine ev_iconst dX11_needCrease_1 ic1 ?_
  refine ev_icmp_lt (tgt := 11) dX11_needCrease_2 (by decide) (fun hc2 => ?_) (fun hc2 => ?_)
  · exact ev_throwW tX11_82_387_86 dX11_needCrease_11 dX11_needCrease_14 dX11_needCrease_15 dX11_needCrease_18 dX11_needCrease_21 (by decide) rfl rfl
  · refine ev_iload_n dX11_needCrease_5 rfl ?_
    refine ev_bipush (v := nI 8) dX11_needCrease_6 (by decide) ?_
    refine ev_icmp_lt_f (tgt := 22) dX11_needCrease_8 (by decide) (Int32.not_lt.mpr (hx.resolve_left hc2)) ?_
    exact ev_throwW tX11_82_387_86 dX11_needCrease_11 dX11_needCrease_14 dX11_needCrease_15 dX11_needCrease_18 dX11_needCrease_21 (by decide) rfl rfl
set_option maxRecDepth 4000 in
theorem qX11_needRiver_y {G : GX} {w : WS} {S : ST} (hS : cm_ S w) {k : Nat} (hk : k < nR S) : Big G 2 0 mX11_needRiver [.ref 0, .int (nI k)] w (.inl none) w := by
  refine big_of (by decide +kernel) (Nat.le_of_ble_eq_true rfl) ?_
  show Ev G 2 0 mX11_needRiver 0 [some (.ref 0), some (.int (nI k))] [] w _
  refine ev_aload_n dX11_needRiver_0 rfl ?_
  refine ev_getR fX11_10 dX11_needRiver_1 (by decide) sh0 rfl ?_
  refine ev_iload_n dX11_needRiver_4 rfl ?_
  refine ev_callV kX11_389 co1 (qX1_hasRiver_y hS hk) dX11_needRiver_5 rfl (by decide) (by decide) rfl ?_
  refine ev_if_ne_t (tgt := 22) dX11_needRiver_8 (by decide) (by decide) ?_
  exact ev_vret dX11_needRiver_22 rfl rfl rfl
set_option maxRecDepth 4000 in
theorem qX11_needRiver_n {G : GX} {w : WS} {S : ST} (hS : cm_ S w) {x : Int32} (hx : out_ (nR S) x) : Big G 2 1 mX11_needRiver [.ref 0, .int x] w (.inr "java/lang/IndexOutOfBoundsException") w := by
  refine big_of (by decide +kernel) (Nat.le_of_ble_eq_true rfl) ?_
  show Ev G 2 1 mX11_needRiver 0 [some (.ref 0), some (.int x)] [] w _
  refine ev_aload_n dX11_needRiver_0 rfl ?_
  refine ev_getR fX11_10 dX11_needRiver_1 (by decide) sh0 rfl ?_
  refine ev_iload_n dX11_needRiver_4 rfl ?_
  refine ev_callV kX11_389 co1 (qX1_hasRiver_n hS hx) dX11_needRiver_5 rfl (by decide) (by decide) rfl ?_
  refine ev_if_ne_f (tgt := 22) dX11_needRiver_8 (by decide) rfl ?_
  exact ev_throwW tX11_267_392_271 dX11_needRiver_11 dX11_needRiver_14 dX11_needRiver_15 dX11_needRiver_18 dX11_needRiver_21 (by decide) rfl rfl
set_option maxRecDepth 4000 in
theorem qX11_needDragon_y {G : GX} {w : WS} {S : ST} (hS : cm_ S w) {k : Nat} (hk : k < nD S) : Big G 2 0 mX11_needDragon [.ref 0, .int (nI k)] w (.inl none) w := by
  refine big_of (by decide +kernel) (Nat.le_of_ble_eq_true rfl) ?_
  show Ev G 2 0 mX11_needDragon 0 [some (.ref 0), some (.int (nI k))] [] w _
  refine ev_aload_n dX11_needDragon_0 rfl ?_
  refine ev_getR fX11_10 dX11_needDragon_1 (by decide) sh0 rfl ?_
  refine ev_iload_n dX11_needDragon_4 rfl ?_
  refine ev_callV kX11_394 co1 (qX1_hasDragon_y hS hk) dX11_needDragon_5 rfl (by decide) (by decide) rfl ?_
  refine ev_if_ne_t (tgt := 22) dX11_needDragon_8 (by decide) (by decide) ?_
  exact ev_vret dX11_needDragon_22 rfl rfl rfl
set_option maxRecDepth 4000 in
theorem qX11_needDragon_n {G : GX} {w : WS} {S : ST} (hS : cm_ S w) {x : Int32} (hx : out_ (nD S) x) : Big G 2 1 mX11_needDragon [.ref 0, .int x] w (.inr "java/lang/IndexOutOfBoundsException") w := by
  refine big_of (by decide +kernel) (Nat.le_of_ble_eq_true rfl) ?_
  show Ev G 2 1 mX11_needDragon 0 [some (.ref 0), some (.int x)] [] w _
  refine ev_aload_n dX11_needDragon_0 rfl ?_
  refine ev_getR fX11_10 dX11_needDragon_1 (by decide) sh0 rfl ?_
  refine ev_iload_n dX11_needDragon_4 rfl ?_
  refine ev_callV kX11_394 co1 (qX1_hasDragon_n hS hx) dX11_needDragon_5 rfl (by decide) (by decide) rfl ?_
  refine ev_if_ne_f (tgt := 22) dX11_needDragon_8 (by decide) rfl ?_
  exact ev_throwW tX11_267_397_271 dX11_needDragon_11 dX11_needDragon_14 dX11_needDragon_15 dX11_needDragon_18 dX11_needDragon_21 (by decide) rfl rfl
