/-! what a command says, asks, does -/
abbrev Cmd : Type := (Nat × Int32) ⊕ (Nat × Nat) ⊕ Nat ⊕ (Nat × Nat × Nat × (Nat → Nat)) ⊕ Nat ⊕ (Nat × Nat) ⊕ Nat
def okC : Cmd → Prop
  | .inl (c, v) => c < 100 ∧ r5 v
  | .inr (.inl (c, r)) => c < 100 ∧ r < 4
  | .inr (.inr (.inl m)) => m < 10
  | .inr (.inr (.inr (.inl (c, t, l, ds)))) => c < 100 ∧ t < 100 ∧ 1 ≤ l ∧ l ≤ 12 ∧ ∀ k, k < l → ds k < 4
  | .inr (.inr (.inr (.inr (.inl i)))) => i < 10
  | .inr (.inr (.inr (.inr (.inr (.inl (c, p)))))) => c < 100 ∧ p < 100
  | .inr (.inr (.inr (.inr (.inr (.inr i))))) => i < 10
/-- the class's command row holds a command -/
def hC_ (w : WS) : Cmd → Prop
  | .inl (c, v) => w.1 102 0 = nI 112 ∧ w.1 102 1 = nI c ∧ w.1 102 2 = v
  | .inr (.inl (c, r)) => w.1 102 0 = nI 115 ∧ w.1 102 1 = nI c ∧ w.1 102 2 = nI r
  | .inr (.inr (.inl m)) => w.1 102 0 = nI 109 ∧ w.1 102 2 = nI m
  | .inr (.inr (.inr (.inl (c, t, l, ds)))) => w.1 102 0 = nI 114 ∧ w.1 102 1 = nI c ∧ w.1 102 2 = nI t ∧ cs2_ w l ds
  | .inr (.inr (.inr (.inr (.inl i)))) => w.1 102 0 = nI 107 ∧ w.1 102 2 = nI i
  | .inr (.inr (.inr (.inr (.inr (.inl (c, p)))))) => w.1 102 0 = nI 100 ∧ w.1 102 1 = nI c ∧ w.1 102 2 = nI p
  | .inr (.inr (.inr (.inr (.inr (.inr i))))) => w.1 102 0 = nI 102 ∧ w.1 102 2 = nI i
/-- what it tells is there -/
def thC (S : ST) : Cmd → Bool
  | .inl (c, _) => decide (c < 64)
  | .inr (.inl (c, _)) => decide (c < 64)
  | .inr (.inr (.inl m)) => decide (1 ≤ m ∧ m ≤ 9)
  | .inr (.inr (.inr (.inl (c, _, _, _)))) => decide (c < 64)
  | .inr (.inr (.inr (.inr (.inl i)))) => decide (i < nR S)
  | .inr (.inr (.inr (.inr (.inr (.inl (c, p)))))) => decide (c < 64) && decide (1 ≤ p ∧ p ≤ 50)
  | .inr (.inr (.inr (.inr (.inr (.inr i))))) => decide (i < nD S)
/-- what is against shaving -/
def shS (S : ST) (c : Nat) (r : Int32) : Nat := if sO S c = r then 1 else if sO S c = -1 then 3 else if bes S c r = false then 4 else if cO S (sO S c) = 1 then 5 else 0
/-- what is against a dragon -/
def drS (S : ST) (c p : Nat) : Nat := if sO S c = -1 then 3 else if (dOn S c).isSome then 8 else if 5 ≤ nD S then 6 else if sC S (oN_ (sO S c)) < nI p then 9 else 0
def rvS (S : ST) (c l : Nat) (ds : Nat → Nat) : Nat := if 4 ≤ nR S then 6 else if (lv_ c ds l).isSome then 7 else 0
def grC (S : ST) : Cmd → Nat
  | .inl (c, v) => if sO S c = v then 1 else 0
  | .inr (.inl (c, r)) => if shS S c (nI r) = 0 ∨ shS S c (nI r) = 1 then shS S c (nI r) else 2
  | .inr (.inr (.inl m)) => if sM S 0 = nI m then 1 else 0
  | .inr (.inr (.inr (.inl (c, _, l, ds)))) => rvS S c l ds
  | .inr (.inr (.inr (.inr (.inl _)))) => 0
  | .inr (.inr (.inr (.inr (.inr (.inl (c, p)))))) => drS S c p
  | .inr (.inr (.inr (.inr (.inr (.inr _))))) => 0
def cdo (S : ST) : Cmd → ST
  | .inl (c, v) => sGv S c v
  | .inr (.inl (c, r)) => sSh S c (oN_ (sO S c)) r
  | .inr (.inr (.inl m)) => sMi S m
  | .inr (.inr (.inr (.inl (c, t, l, ds)))) => sAR S (plN c ds) l t
  | .inr (.inr (.inr (.inr (.inl i)))) => sRR S i
  | .inr (.inr (.inr (.inr (.inr (.inl (c, p)))))) => sAD S c p (oN_ (sO S c))
  | .inr (.inr (.inr (.inr (.inr (.inr i))))) => sSc S i
def crt (S : ST) : Cmd → Int32
  | .inl (c, _) => sO S c
  | .inr (.inl (c, _)) => sO S c
  | .inr (.inr (.inl _)) => sM S 0
  | .inr (.inr (.inr (.inl (_, _, _, _)))) => nI (nR S)
  | .inr (.inr (.inr (.inr (.inl _)))) => nI (nR S - 1)
  | .inr (.inr (.inr (.inr (.inr (.inl (_, _)))))) => nI (nD S)
  | .inr (.inr (.inr (.inr (.inr (.inr i))))) => nI (dP S i)
theorem ow_ {S : ST} (h : okS S) {c : Nat} (hc : c < 64) (hn : sO S c ≠ -1) : ∃ a, a < 4 ∧ sO S c = nI a ∧ oN_ (sO S c) = a := by
  rcases h.1 c hc with q | ⟨k, hk, q⟩
  · exact absurd q hn
  · exact ⟨k, hk, q, by rw [q]; exact oN_nI (by omega)⟩
theorem sM_ok {S : ST} (h : okS S) : ∃ m, 1 ≤ m ∧ m ≤ 9 ∧ sM S 0 = nI m := h.2.2.2
theorem qX11_isCell_b {G : GX} {w : WS} {k : Nat} (hk : k < 2 ^ 31) : Big G 1 0 mX11_isCell [.int (nI k)] w (.inl (some (.int (bI (decide (k < 64)))))) w := by
  by_cases h : k < 64
  · rw [decide_eq_true h]; exact qX11_isCell_y h
  · rw [decide_eq_false h]; exact qX11_isCell_n (Or.inr (nI_le (by omega) hk))
theorem qX11_isScale_b {G : GX} {w : WS} {k : Nat} (hk : k < 2 ^ 31) : Big G 1 0 mX11_isScale [.int (nI k)] w (.inl (some (.int (bI (decide (1 ≤ k ∧ k ≤ 9)))))) w := by
  by_cases h : 1 ≤ k ∧ k ≤ 9
  · rw [decide_eq_true h]; exact qX11_isScale_y h.1 h.2
  · rw [decide_eq_false h]; exact qX11_isScale_n (by rw [pk_lt' hk (by decide), pk_lt' (by decide) hk]; omega)
theorem qX11_isPrice_b {G : GX} {w : WS} {k : Nat} (hk : k < 2 ^ 31) : Big G 1 0 mX11_isPrice [.int (nI k)] w (.inl (some (.int (bI (decide (1 ≤ k ∧ k ≤ 50)))))) w := by
  by_cases h : 1 ≤ k ∧ k ≤ 50
  · rw [decide_eq_true h]; exact qX11_isPrice_y h.1 h.2
  · rw [decide_eq_false h]; exact qX11_isPrice_n (by rw [pk_lt' hk (by decide), pk_lt' (by decide) hk]; omega)
theorem qX1_hasRiver_b {G : GX} {w : WS} {S : ST} (hS : cm_ S w) {k : Nat} (hk : k < 2 ^ 31) : Big G 1 0 mX1_hasRiver [.ref 1, .int (nI k)] w (.inl (some (.int (bI (decide (k < nR S)))))) w := by
  by_cases h : k < nR S
  · rw [decide_eq_true h]; exact qX1_hasRiver_y hS h
  · rw [decide_eq_false h]; exact qX1_hasRiver_n hS (Or.inr (nI_le (by omega) hk))
theorem qX1_hasDragon_b {G : GX} {w : WS} {S : ST} (hS : cm_ S w) {k : Nat} (hk : k < 2 ^ 31) : Big G 1 0 mX1_hasDragon [.ref 1, .int (nI k)] w (.inl (some (.int (bI (decide (k < nD S)))))) w := by
  by_cases h : k < nD S
  · rw [decide_eq_true h]; exact qX1_hasDragon_y hS h
  · rw [decide_eq_false h]; exact qX1_hasDragon_n hS (Or.inr (nI_le (by omega) hk))
set_option maxRecDepth 4000 in
theorem qX5_isThere_paint {G : GX} {w : WS} {S : ST} (hS : cm_ S w) {c : Nat} {v : Int32} (hc : hC_ w (.inl (c, v))) (ho : okC (.inl (c, v))) : Big G 2 0 mX5_isThere [.ref 1, .ref 102] w (.inl (some (.int (bI (thC S (.inl (c, v))))))) w := by
  refine big_of (by decide +kernel) (Nat.le_of_ble_eq_true rfl) ?_
  have hS0 := hS
  obtain ⟨hO, hC, hR, hRv, hD, hDv, hM0, hM1, hM2, hM3, hM4⟩ := cm_cells hS
  obtain ⟨hch, hk1, hk2, hk3, hk4⟩ := hS
  have hlt : _ < 2 ^ 31 := Nat.lt_trans ho.1 (by decide)
  show Ev G 2 0 mX5_isThere 0 [some (.ref 1), some (.ref 102)] [] w _
  refine ev_aload_n dX5_isThere_0 rfl ?_
  refine ev_getI fX5_9 dX5_isThere_1 (by decide) sh102 rfl ?_
  refine ev_top hc.1 ?_
  refine ev_tableIn (tgt := 84) (off := 80) dX5_isThere_4 (by decide) (by decide) (by decide +kernel) (by decide) ?_
  refine ev_aload_n dX5_isThere_84 rfl ?_
  refine ev_getI fX5_15 dX5_isThere_85 (by decide) sh102 rfl ?_
  refine ev_top hc.2.1 ?_
  refine ev_callN kX5_18 (qX11_isCell_b hlt) dX5_isThere_88 rfl (by decide) (by decide) rfl ?_
  exact ev_iret dX5_isThere_91 rfl (bI_n _) rfl rfl
set_option maxRecDepth 4000 in
theorem qX5_isThere_shave {G : GX} {w : WS} {S : ST} (hS : cm_ S w) {c r : Nat} (hc : hC_ w (.inr (.inl (c, r)))) (ho : okC (.inr (.inl (c, r)))) : Big G 2 0 mX5_isThere [.ref 1, .ref 102] w (.inl (some (.int (bI (thC S (.inr (.inl (c, r)))))))) w := by
  refine big_of (by decide +kernel) (Nat.le_of_ble_eq_true rfl) ?_
  have hS0 := hS
  obtain ⟨hO, hC, hR, hRv, hD, hDv, hM0, hM1, hM2, hM3, hM4⟩ := cm_cells hS
  obtain ⟨hch, hk1, hk2, hk3, hk4⟩ := hS
  have hlt : _ < 2 ^ 31 := Nat.lt_trans ho.1 (by decide)
  show Ev G 2 0 mX5_isThere 0 [some (.ref 1), some (.ref 102)] [] w _
  refine ev_aload_n dX5_isThere_0 rfl ?_
  refine ev_getI fX5_9 dX5_isThere_1 (by decide) sh102 rfl ?_
  refine ev_top hc.1 ?_
  refine ev_tableIn (tgt := 84) (off := 80) dX5_isThere_4 (by decide) (by decide) (by decide +kernel) (by decide) ?_
  refine ev_aload_n dX5_isThere_84 rfl ?_
  refine ev_getI fX5_15 dX5_isThere_85 (by decide) sh102 rfl ?_
  refine ev_top hc.2.1 ?_
  refine ev_callN kX5_18 (qX11_isCell_b hlt) dX5_isThere_88 rfl (by decide) (by decide) rfl ?_
  exact ev_iret dX5_isThere_91 rfl (bI_n _) rfl rfl
set_option maxRecDepth 4000 in
theorem qX5_isThere_scale {G : GX} {w : WS} {S : ST} (hS : cm_ S w) {m : Nat} (hc : hC_ w (.inr (.inr (.inl m)))) (ho : okC (.inr (.inr (.inl m)))) : Big G 2 0 mX5_isThere [.ref 1, .ref 102] w (.inl (some (.int (bI (thC S (.inr (.inr (.inl m)))))))) w := by
  refine big_of (by decide +kernel) (Nat.le_of_ble_eq_true rfl) ?_
  have hS0 := hS
  obtain ⟨hO, hC, hR, hRv, hD, hDv, hM0, hM1, hM2, hM3, hM4⟩ := cm_cells hS
  obtain ⟨hch, hk1, hk2, hk3, hk4⟩ := hS
  have hlt : _ < 2 ^ 31 := Nat.lt_trans ho (by decide)
  show Ev G 2 0 mX5_isThere 0 [some (.ref 1), some (.ref 102)] [] w _
  refine ev_aload_n dX5_isThere_0 rfl ?_
  refine ev_getI fX5_9 dX5_isThere_1 (by decide) sh102 rfl ?_
  refine ev_top hc.1 ?_
  refine ev_tableIn (tgt := 92) (off := 88) dX5_isThere_4 (by decide) (by decide) (by decide +kernel) (by decide) ?_
  refine ev_aload_n dX5_isThere_92 rfl ?_
  refine ev_getI fX5_22 dX5_isThere_93 (by decide) sh102 rfl ?_
  refine ev_top hc.2 ?_
  refine ev_callN kX5_25 (qX11_isScale_b hlt) dX5_isThere_96 rfl (by decide) (by decide) rfl ?_
  exact ev_iret dX5_isThere_99 rfl (bI_n _) rfl rfl
set_option maxRecDepth 4000 in
theorem qX5_isThere_river {G : GX} {w : WS} {S : ST} (hS : cm_ S w) {c t l : Nat} {ds : Nat → Nat} (hc : hC_ w (.inr (.inr (.inr (.inl (c, t, l, ds)))))) (ho : okC (.inr (.inr (.inr (.inl (c, t, l, ds)))))) : Big G 2 0 mX5_isThere [.ref 1, .ref 102] w (.inl (some (.int (bI (thC S (.inr (.inr (.inr (.inl (c, t, l, ds)))))))))) w := by
  refine big_of (by decide +kernel) (Nat.le_of_ble_eq_true rfl) ?_
  have hS0 := hS
  obtain ⟨hO, hC, hR, hRv, hD, hDv, hM0, hM1, hM2, hM3, hM4⟩ := cm_cells hS
  obtain ⟨hch, hk1, hk2, hk3, hk4⟩ := hS
  have hlt : _ < 2 ^ 31 := Nat.lt_trans ho.1 (by decide)
  show Ev G 2 0 mX5_isThere 0 [some (.ref 1), some (.ref 102)] [] w _
  refine ev_aload_n dX5_isThere_0 rfl ?_
  refine ev_getI fX5_9 dX5_isThere_1 (by decide) sh102 rfl ?_
  refine ev_top hc.1 ?_
  refine ev_tableIn (tgt := 84) (off := 80) dX5_isThere_4 (by decide) (by decide) (by decide +kernel) (by decide) ?_
  refine ev_aload_n dX5_isThere_84 rfl ?_
  refine ev_getI fX5_15 dX5_isThere_85 (by decide) sh102 rfl ?_
  refine ev_top hc.2.1 ?_
  refine ev_callN kX5_18 (qX11_isCell_b hlt) dX5_isThere_88 rfl (by decide) (by decide) rfl ?_
  exact ev_iret dX5_isThere_91 rfl (bI_n _) rfl rfl
set_option maxRecDepth 4000 in
theorem qX5_isThere_drop {G : GX} {w : WS} {S : ST} (hS : cm_ S w) {i : Nat} (hc : hC_ w (.inr (.inr (.inr (.inr (.inl i)))))) (ho : okC (.inr (.inr (.inr (.inr (.inl i)))))) : Big G 2 0 mX5_isThere [.ref 1, .ref 102] w (.inl (some (.int (bI (thC S (.inr (.inr (.inr (.inr (.inl i)))))))))) w := by
  refine big_of (by decide +kernel) (Nat.le_of_ble_eq_true rfl) ?_
  have hS0 := hS
  obtain ⟨hO, hC, hR, hRv, hD, hDv, hM0, hM1, hM2, hM3, hM4⟩ := cm_cells hS
  obtain ⟨hch, hk1, hk2, hk3, hk4⟩ := hS
  have hlt : _ < 2 ^ 31 := Nat.lt_trans ho (by decide)
  show Ev G 2 0 mX5_isThere 0 [some (.ref 1), some (.ref 102)] [] w _
  refine ev_aload_n dX5_isThere_0 rfl ?_
  refine ev_getI fX5_9 dX5_isThere_1 (by decide) sh102 rfl ?_
  refine ev_top hc.1 ?_
  refine ev_tableIn (tgt := 100) (off := 96) dX5_isThere_4 (by decide) (by decide) (by decide +kernel) (by decide) ?_
  refine ev_aload_n dX5_isThere_100 rfl ?_
  refine ev_aload_n dX5_isThere_101 rfl ?_
  refine ev_getI fX5_22 dX5_isThere_102 (by decide) sh102 rfl ?_
  refine ev_top hc.2 ?_
  refine ev_callV kX5_28 co1 (qX1_hasRiver_b hS0 hlt) dX5_isThere_105 rfl (by decide) (by decide) rfl ?_
  exact ev_iret dX5_isThere_108 rfl (bI_n _) rfl rfl
set_option maxRecDepth 4000 in
theorem qX5_isThere_dragon {G : GX} {w : WS} {S : ST} (hS : cm_ S w) {c p : Nat} (hc : hC_ w (.inr (.inr (.inr (.inr (.inr (.inl (c, p)))))))) (ho : okC (.inr (.inr (.inr (.inr (.inr (.inl (c, p)))))))) : Big G 2 0 mX5_isThere [.ref 1, .ref 102] w (.inl (some (.int (bI (thC S (.inr (.inr (.inr (.inr (.inr (.inl (c, p)))))))))))) w := by
  refine big_of (by decide +kernel) (Nat.le_of_ble_eq_true rfl) ?_
  have hS0 := hS
  obtain ⟨hO, hC, hR, hRv, hD, hDv, hM0, hM1, hM2, hM3, hM4⟩ := cm_cells hS
  obtain ⟨hch, hk1, hk2, hk3, hk4⟩ := hS
  have hlt : _ < 2 ^ 31 := Nat.lt_trans ho.1 (by decide)
  have hlt2 : _ < 2 ^ 31 := Nat.lt_trans ho.2 (by decide)
  show Ev G 2 0 mX5_isThere 0 [some (.ref 1), some (.ref 102)] [] w _
  refine ev_aload_n dX5_isThere_0 rfl ?_
  refine ev_getI fX5_9 dX5_isThere_1 (by decide) sh102 rfl ?_
  refine ev_top hc.1 ?_
  refine ev_tableIn (tgt := 109) (off := 105) dX5_isThere_4 (by decide) (by decide) (by decide +kernel) (by decide) ?_
  refine ev_aload_n dX5_isThere_109 rfl ?_
  refine ev_getI fX5_15 dX5_isThere_110 (by decide) sh102 rfl ?_
  refine ev_top hc.2.1 ?_
  refine ev_callN kX5_18 (qX11_isCell_b hlt) dX5_isThere_113 rfl (by decide) (by decide) rfl ?_
  refine ev_ifb_eq (tgt := 133) dX5_isThere_116 (by decide) (fun hc116 => ?_) (fun hc116 => ?_)
  · refine ev_iconst dX5_isThere_133 ic0 ?_
    exact ev_iret dX5_isThere_134 rfl (by decide) (obF (by simp only [thC, hc116, Bool.false_and])) rfl
  · refine ev_aload_n dX5_isThere_119 rfl ?_
    refine ev_getI fX5_22 dX5_isThere_120 (by decide) sh102 rfl ?_
    refine ev_top hc.2.2 ?_
    refine ev_callN kX5_33 (qX11_isPrice_b hlt2) dX5_isThere_123 rfl (by decide) (by decide) rfl ?_
    refine ev_ifb_eq (tgt := 133) dX5_isThere_126 (by decide) (fun hc126 => ?_) (fun hc126 => ?_)
    · refine ev_iconst dX5_isThere_133 ic0 ?_
      exact ev_iret dX5_isThere_134 rfl (by decide) (obF (by simp only [thC, hc116, hc126, Bool.and_false])) rfl
    · refine ev_iconst dX5_isThere_129 ic1 ?_
      refine ev_goto (tgt := 134) dX5_isThere_130 (by decide) ?_
      exact ev_iret dX5_isThere_134 rfl (by decide) (obT (by simp only [thC, hc116, hc126, Bool.and_true])) rfl
set_option maxRecDepth 4000 in
theorem qX5_isThere_scare {G : GX} {w : WS} {S : ST} (hS : cm_ S w) {i : Nat} (hc : hC_ w (.inr (.inr (.inr (.inr (.inr (.inr i))))))) (ho : okC (.inr (.inr (.inr (.inr (.inr (.inr i))))))) : Big G 2 0 mX5_isThere [.ref 1, .ref 102] w (.inl (some (.int (bI (thC S (.inr (.inr (.inr (.inr (.inr (.inr i))))))))))) w := by
  refine big_of (by decide +kernel) (Nat.le_of_ble_eq_true rfl) ?_
  have hS0 := hS
  obtain ⟨hO, hC, hR, hRv, hD, hDv, hM0, hM1, hM2, hM3, hM4⟩ := cm_cells hS
  obtain ⟨hch, hk1, hk2, hk3, hk4⟩ := hS
  have hlt : _ < 2 ^ 31 := Nat.lt_trans ho (by decide)
  show Ev G 2 0 mX5_isThere 0 [some (.ref 1), some (.ref 102)] [] w _
  refine ev_aload_n dX5_isThere_0 rfl ?_
  refine ev_getI fX5_9 dX5_isThere_1 (by decide) sh102 rfl ?_
  refine ev_top hc.1 ?_
  refine ev_tableIn (tgt := 135) (off := 131) dX5_isThere_4 (by decide) (by decide) (by decide +kernel) (by decide) ?_
  refine ev_aload_n dX5_isThere_135 rfl ?_
  refine ev_aload_n dX5_isThere_136 rfl ?_
  refine ev_getI fX5_22 dX5_isThere_137 (by decide) sh102 rfl ?_
  refine ev_top hc.2 ?_
  refine ev_callV kX5_36 co1 (qX1_hasDragon_b hS0 hlt) dX5_isThere_140 rfl (by decide) (by decide) rfl ?_
  exact ev_iret dX5_isThere_143 rfl (bI_n _) rfl rfl
theorem qX5_isThere {G : GX} {w : WS} {S : ST} (hS : cm_ S w) {q : Cmd} (hc : hC_ w q) (ho : okC q) : Big G 2 0 mX5_isThere [.ref 1, .ref 102] w (.inl (some (.int (bI (thC S q))))) w := by
  rcases q with ⟨c, v⟩ | ⟨c, r⟩ | m | ⟨c, t, l, ds⟩ | i | ⟨c, p⟩ | i
  · exact qX5_isThere_paint hS hc ho
  · exact qX5_isThere_shave hS hc ho
  · exact qX5_isThere_scale hS hc ho
  · exact qX5_isThere_river hS hc ho
  · exact qX5_isThere_drop hS hc ho
  · exact qX5_isThere_dragon hS hc ho
  · exact qX5_isThere_scare hS hc ho
set_option maxRecDepth 4000 in
theorem qX5_againstShaving {G : GX} {w : WS} {S : ST} (hS : cm_ S w) {c : Nat} (hc : c < 64) {r : Int32} : Big G 4 0 mX5_againstShaving [.ref 1, .int (nI c), .int r] w (.inl (some (.int (nI (shS S c r))))) w := by
  refine big_of (by decide +kernel) (Nat.le_of_ble_eq_true rfl) ?_
  have hS0 := hS
  obtain ⟨hO, hC, hR, hRv, hD, hDv, hM0, hM1, hM2, hM3, hM4⟩ := cm_cells hS
  obtain ⟨hch, hk1, hk2, hk3, hk4⟩ := hS
  show Ev G 4 0 mX5_againstShaving 0 [some (.ref 1), some (.int (nI c)), some (.int r), none] [] w _
  refine ev_aload_n dX5_againstShaving_0 rfl ?_
  refine ev_iload_n dX5_againstShaving_1 rfl ?_
  refine ev_callV kX5_39 co1 (qX1_ownerAt_y hS0 hc) dX5_againstShaving_2 rfl (by decide) (by decide) rfl ?_
  refine ev_ist3 dX5_againstShaving_5 (by decide) rfl ?_
  refine ev_iload_n dX5_againstShaving_6 rfl ?_
  refine ev_iload_n dX5_againstShaving_7 rfl ?_
  refine ev_icmp_ne (tgt := 13) dX5_againstShaving_8 (by decide) (fun hc8 => ?_) (fun hc8 => ?_)
  · refine ev_iload_n dX5_againstShaving_13 rfl ?_
    refine ev_iconst dX5_againstShaving_14 icm1 ?_
    refine ev_icmp_ne (tgt := 20) dX5_againstShaving_15 (by decide) (fun hc15 => ?_) (fun hc15 => ?_)
    · refine ev_aload_n dX5_againstShaving_20 rfl ?_
      refine ev_iload_n dX5_againstShaving_21 rfl ?_
      refine ev_iload_n dX5_againstShaving_22 rfl ?_
      refine ev_callV kX5_59 co1 (qX1_isRealmBeside hS0 hc) dX5_againstShaving_23 rfl (by decide) (by decide) rfl ?_
      refine ev_ifb_ne (tgt := 31) dX5_againstShaving_26 (by decide) (fun hc26 => ?_) (fun hc26 => ?_)
      · refine ev_aload_n dX5_againstShaving_31 rfl ?_
        refine ev_iload_n dX5_againstShaving_32 rfl ?_
        refine ev_callV kX5_63 co1 (qX1_cellsOf hS0) dX5_againstShaving_33 rfl (by decide) (by decide) rfl ?_
        refine ev_iconst dX5_againstShaving_36 ic1 ?_
        refine ev_icmp_ne (tgt := 44) dX5_againstShaving_37 (by decide) (fun hc37 => ?_) (fun hc37 => ?_)
        · have e37 : ¬ cO S (sO S c) = 1 := fun q => hc37 (by rw [q])
          refine ev_iconst dX5_againstShaving_44 ic0 ?_
          exact ev_iret dX5_againstShaving_45 rfl rfl (by unfold shS; rw [if_neg hc8, if_neg hc15, if_neg (by rw [hc26]; exact Bool.noConfusion)]; first | rw [if_pos e37] | rw [if_neg e37]) rfl
        · have e37 : cO S (sO S c) = 1 := nI_inj (by have := ct_le (fun k => sO S k == sO S c) 64; unfold cO; omega) (by decide) hc37
          refine ev_iconst dX5_againstShaving_40 ic5 ?_
          refine ev_goto (tgt := 45) dX5_againstShaving_41 (by decide) ?_
          exact ev_iret dX5_againstShaving_45 rfl rfl (by unfold shS; rw [if_neg hc8, if_neg hc15, if_neg (by rw [hc26]; exact Bool.noConfusion)]; first | rw [if_pos e37] | rw [if_neg e37]) rfl
      · refine ev_iconst dX5_againstShaving_29 ic4 ?_
        exact ev_iret dX5_againstShaving_30 rfl rfl (by unfold shS; rw [if_neg hc8, if_neg hc15, if_pos hc26]) rfl
    · refine ev_iconst dX5_againstShaving_18 ic3 ?_
      exact ev_iret dX5_againstShaving_19 rfl rfl (by unfold shS; rw [if_neg hc8, if_pos hc15]) rfl
  · refine ev_iconst dX5_againstShaving_11 ic1 ?_
    exact ev_iret dX5_againstShaving_12 rfl rfl (by unfold shS; rw [if_pos hc8]) rfl
set_option maxRecDepth 4000 in
theorem qX5_againstRiver {G : GX} {w : WS} {S : ST} (hS : cm_ S w) {c l : Nat} {ds : Nat → Nat} (hcc : w.1 102 1 = nI c) (hc : c < 64) (hcs : cs2_ w l ds) : Big G 4 0 mX5_againstRiver [.ref 1, .ref 102] w (.inl (some (.int (nI (rvS S c l ds))))) w := by
  refine big_of (by decide +kernel) (Nat.le_of_ble_eq_true rfl) ?_
  have hS0 := hS
  obtain ⟨hO, hC, hR, hRv, hD, hDv, hM0, hM1, hM2, hM3, hM4⟩ := cm_cells hS
  obtain ⟨hch, hk1, hk2, hk3, hk4⟩ := hS
  have h5 := hk2.1
  show Ev G 4 0 mX5_againstRiver 0 [some (.ref 1), some (.ref 102)] [] w _
  refine ev_aload_n dX5_againstRiver_0 rfl ?_
  refine ev_getI fX5_66 dX5_againstRiver_1 (by decide) sh1 rfl ?_
  refine ev_top hR ?_
  refine ev_iconst dX5_againstRiver_4 ic4 ?_
  refine ev_icmp_lt (tgt := 11) dX5_againstRiver_5 (by decide) (fun hc5 => ?_) (fun hc5 => ?_)
  · have e5 : ¬ 4 ≤ nR S := by have := (pk_lt' (by omega) (by decide)).mp hc5; omega
    refine ev_aload_n dX5_againstRiver_11 rfl ?_
    refine ev_callV kX5_69 co102 (qX2_leavingStep hcc hc hcs) dX5_againstRiver_12 rfl (by decide) (by decide) rfl ?_
    have ob : ∀ k, lv_ c ds l = some k → k < 2 ^ 31 := fun k hk => by have := lvs_lt hk; have := hcs.1; omega
    refine ev_iconst dX5_againstRiver_15 icm1 ?_
    refine ev_icmp_eq (tgt := 24) dX5_againstRiver_16 (by decide) (fun hc16 => ?_) (fun hc16 => ?_)
    · refine ev_iconst dX5_againstRiver_24 ic0 ?_
      exact ev_iret dX5_againstRiver_25 rfl rfl (by unfold rvS; rw [if_neg e5]; first | rw [(oI_none ob).mp hc16]; rfl | (cases e : lv_ c ds l with | none => exact absurd ((oI_none ob).mpr e) hc16 | some y => rfl)) rfl
    · refine ev_bipush (v := nI 7) dX5_againstRiver_19 (by decide) ?_
      refine ev_goto (tgt := 25) dX5_againstRiver_21 (by decide) ?_
      exact ev_iret dX5_againstRiver_25 rfl rfl (by unfold rvS; rw [if_neg e5]; first | rw [(oI_none ob).mp hc16]; rfl | (cases e : lv_ c ds l with | none => exact absurd ((oI_none ob).mpr e) hc16 | some y => rfl)) rfl
  · have e5 : 4 ≤ nR S := by have := (not_congr (pk_lt' (by omega) (by decide))).mp hc5; omega
    refine ev_bipush (v := nI 6) dX5_againstRiver_8 (by decide) ?_
    exact ev_iret dX5_againstRiver_10 rfl rfl (by unfold rvS; rw [if_pos e5]) rfl
set_option maxRecDepth 4000 in
theorem qX5_againstDragon {G : GX} {w : WS} {S : ST} (hS : cm_ S w) {c p : Nat} (hc : c < 64) : Big G 4 0 mX5_againstDragon [.ref 1, .int (nI c), .int (nI p)] w (.inl (some (.int (nI (drS S c p))))) w := by
  refine big_of (by decide +kernel) (Nat.le_of_ble_eq_true rfl) ?_
  have hS0 := hS
  obtain ⟨hO, hC, hR, hRv, hD, hDv, hM0, hM1, hM2, hM3, hM4⟩ := cm_cells hS
  obtain ⟨hch, hk1, hk2, hk3, hk4⟩ := hS
  have h5 := hk3.1
  show Ev G 4 0 mX5_againstDragon 0 [some (.ref 1), some (.int (nI c)), some (.int (nI p)), none] [] w _
  refine ev_aload_n dX5_againstDragon_0 rfl ?_
  refine ev_iload_n dX5_againstDragon_1 rfl ?_
  refine ev_callV kX5_39 co1 (qX1_ownerAt_y hS0 hc) dX5_againstDragon_2 rfl (by decide) (by decide) rfl ?_
  refine ev_ist3 dX5_againstDragon_5 (by decide) rfl ?_
  refine ev_iload_n dX5_againstDragon_6 rfl ?_
  refine ev_iconst dX5_againstDragon_7 icm1 ?_
  refine ev_icmp_ne (tgt := 13) dX5_againstDragon_8 (by decide) (fun hc8 => ?_) (fun hc8 => ?_)
  · obtain ⟨a, ha, hoa, hon⟩ := ow_ hS0.2 hc hc8
    refine ev_aload_n dX5_againstDragon_13 rfl ?_
    refine ev_iload_n dX5_againstDragon_14 rfl ?_
    refine ev_callV kX5_73 co1 (qX1_dragonOn hS0 hc) dX5_againstDragon_15 rfl (by decide) (by decide) rfl ?_
    have ob : ∀ k, dOn S c = some k → k < 2 ^ 31 := fun k hk => by have := (dOn_lt hk).1; omega
    refine ev_iconst dX5_againstDragon_18 icm1 ?_
    refine ev_icmp_eq (tgt := 25) dX5_againstDragon_19 (by decide) (fun hc19 => ?_) (fun hc19 => ?_)
    · have e19 : (dOn S c).isSome = false := by rw [(oI_none ob).mp hc19]; rfl
      refine ev_aload_n dX5_againstDragon_25 rfl ?_
      refine ev_getI fX5_76 dX5_againstDragon_26 (by decide) sh1 rfl ?_
      refine ev_top hD ?_
      refine ev_iconst dX5_againstDragon_29 ic5 ?_
      refine ev_icmp_lt (tgt := 36) dX5_againstDragon_30 (by decide) (fun hc30 => ?_) (fun hc30 => ?_)
      · have e30 : ¬ 5 ≤ nD S := by have := (pk_lt' (by omega) (by decide)).mp hc30; omega
        refine ev_aload_n dX5_againstDragon_36 rfl ?_
        refine ev_iload_n dX5_againstDragon_37 rfl ?_
        rw [hoa]
        refine ev_callV kX5_79 co1 (qX1_coinsOf_y hS0 ha) dX5_againstDragon_38 rfl (by decide) (by decide) rfl ?_
        refine ev_iload_n dX5_againstDragon_41 rfl ?_
        refine ev_icmp_ge (tgt := 50) dX5_againstDragon_42 (by decide) (fun hc42 => ?_) (fun hc42 => ?_)
        · have e42 : ¬ sC S (oN_ (sO S c)) < nI p := by rw [hon]; exact Int32.not_lt.mpr hc42
          refine ev_iconst dX5_againstDragon_50 ic0 ?_
          exact ev_iret dX5_againstDragon_51 rfl rfl (by unfold drS; rw [if_neg hc8, if_neg (by rw [e19]; exact Bool.noConfusion), if_neg e30]; first | rw [if_pos e42] | rw [if_neg e42]) rfl
        · have e42 : sC S (oN_ (sO S c)) < nI p := by rw [hon]; exact Int32.not_le.mp hc42
          refine ev_bipush (v := nI 9) dX5_againstDragon_45 (by decide) ?_
          refine ev_goto (tgt := 51) dX5_againstDragon_47 (by decide) ?_
          exact ev_iret dX5_againstDragon_51 rfl rfl (by unfold drS; rw [if_neg hc8, if_neg (by rw [e19]; exact Bool.noConfusion), if_neg e30]; first | rw [if_pos e42] | rw [if_neg e42]) rfl
      · have e30 : 5 ≤ nD S := by have := (not_congr (pk_lt' (by omega) (by decide))).mp hc30; omega
        refine ev_bipush (v := nI 6) dX5_againstDragon_33 (by decide) ?_
        exact ev_iret dX5_againstDragon_35 rfl rfl (by unfold drS; rw [if_neg hc8, if_neg (by rw [e19]; exact Bool.noConfusion), if_pos e30]) rfl
    · have e19 : (dOn S c).isSome = true := by cases e : dOn S c with
        | none => exact absurd ((oI_none ob).mpr e) hc19
        | some y => rfl
      refine ev_bipush (v := nI 8) dX5_againstDragon_22 (by decide) ?_
      exact ev_iret dX5_againstDragon_24 rfl rfl (by unfold drS; rw [if_neg hc8, if_pos e19]) rfl
  · refine ev_iconst dX5_againstDragon_11 ic3 ?_
    exact ev_iret dX5_againstDragon_12 rfl rfl (by unfold drS; rw [if_pos hc8]) rfl
set_option maxRecDepth 4000 in
theorem qX5_against_paint {G : GX} {w : WS} {S : ST} (hS : cm_ S w) {c : Nat} {v : Int32} (hc : hC_ w (.inl (c, v))) (hx : c < 64) : Big G 5 0 mX5_against [.ref 1, .ref 102] w (.inl (some (.int (nI (grC S (.inl (c, v))))))) w := by
  refine big_of (by decide +kernel) (Nat.le_of_ble_eq_true rfl) ?_
  have hS0 := hS
  obtain ⟨hO, hC, hR, hRv, hD, hDv, hM0, hM1, hM2, hM3, hM4⟩ := cm_cells hS
  obtain ⟨hch, hk1, hk2, hk3, hk4⟩ := hS
  show Ev G 5 0 mX5_against 0 [some (.ref 1), some (.ref 102), none] [] w _
  refine ev_aload_n dX5_against_0 rfl ?_
  refine ev_getI fX5_9 dX5_against_1 (by decide) sh102 rfl ?_
  refine ev_top hc.1 ?_
  refine ev_lookup (tgt := 56) (off := 52) dX5_against_4 (by decide) (by decide +kernel) (by decide) ?_
  refine ev_aload_n dX5_against_56 rfl ?_
  refine ev_aload_n dX5_against_57 rfl ?_
  refine ev_getI fX5_15 dX5_against_58 (by decide) sh102 rfl ?_
  refine ev_top hc.2.1 ?_
  refine ev_callV kX5_39 co1 (qX1_ownerAt_y hS0 hx) dX5_against_61 rfl (by decide) (by decide) rfl ?_
  refine ev_aload_n dX5_against_64 rfl ?_
  refine ev_getI fX5_22 dX5_against_65 (by decide) sh102 rfl ?_
  refine ev_top hc.2.2 ?_
  refine ev_icmp_ne (tgt := 75) dX5_against_68 (by decide) (fun hc68 => ?_) (fun hc68 => ?_)
  · refine ev_iconst dX5_against_75 ic0 ?_
    exact ev_iret dX5_against_76 rfl rfl (by simp only [grC]; first | rw [if_pos hc68] | rw [if_neg hc68]) rfl
  · refine ev_iconst dX5_against_71 ic1 ?_
    refine ev_goto (tgt := 76) dX5_against_72 (by decide) ?_
    exact ev_iret dX5_against_76 rfl rfl (by simp only [grC]; first | rw [if_pos hc68] | rw [if_neg hc68]) rfl
set_option maxRecDepth 4000 in
theorem qX5_against_shave {G : GX} {w : WS} {S : ST} (hS : cm_ S w) {c r : Nat} (hc : hC_ w (.inr (.inl (c, r)))) (hx : c < 64) : Big G 5 0 mX5_against [.ref 1, .ref 102] w (.inl (some (.int (nI (grC S (.inr (.inl (c, r)))))))) w := by
  refine big_of (by decide +kernel) (Nat.le_of_ble_eq_true rfl) ?_
  have hS0 := hS
  obtain ⟨hO, hC, hR, hRv, hD, hDv, hM0, hM1, hM2, hM3, hM4⟩ := cm_cells hS
  obtain ⟨hch, hk1, hk2, hk3, hk4⟩ := hS
  show Ev G 5 0 mX5_against 0 [some (.ref 1), some (.ref 102), none] [] w _
  refine ev_aload_n dX5_against_0 rfl ?_
  refine ev_getI fX5_9 dX5_against_1 (by decide) sh102 rfl ?_
  refine ev_top hc.1 ?_
  refine ev_lookup (tgt := 77) (off := 73) dX5_against_4 (by decide) (by decide +kernel) (by decide) ?_
  refine ev_aload_n dX5_against_77 rfl ?_
  refine ev_aload_n dX5_against_78 rfl ?_
  refine ev_getI fX5_15 dX5_against_79 (by decide) sh102 rfl ?_
  refine ev_top hc.2.1 ?_
  refine ev_aload_n dX5_against_82 rfl ?_
  refine ev_getI fX5_22 dX5_against_83 (by decide) sh102 rfl ?_
  refine ev_top hc.2.2 ?_
  refine ev_callS kX5_43 (qX5_againstShaving hS0 hx) dX5_against_86 rfl (by decide) (by decide) rfl ?_
  have hs9 : shS S c (nI r) < 10 := by unfold shS; (repeat' split) <;> decide
  refine ev_ist2 dX5_against_89 (by decide) rfl ?_
  refine ev_iload_n dX5_against_90 rfl ?_
  refine ev_if_eq (tgt := 99) dX5_against_91 (by decide) (fun hc91 => ?_) (fun hc91 => ?_)
  · have e91 : shS S c (nI r) = 0 := nI_inj (by omega) (by decide) hc91
    refine ev_iload_n dX5_against_99 rfl ?_
    refine ev_goto (tgt := 104) dX5_against_100 (by decide) ?_
    exact ev_iret dX5_against_104 rfl rfl (by simp only [grC]; first | rw [if_pos (Or.inl e91)] | rw [if_pos (Or.inr e96)] | rw [if_neg (by omega)]) rfl
  · have e91 : ¬ shS S c (nI r) = 0 := fun q => hc91 (by rw [q]; rfl)
    refine ev_iload_n dX5_against_94 rfl ?_
    refine ev_iconst dX5_against_95 ic1 ?_
    refine ev_icmp_ne (tgt := 103) dX5_against_96 (by decide) (fun hc96 => ?_) (fun hc96 => ?_)
    · have e96 : ¬ shS S c (nI r) = 1 := fun q => hc96 (by rw [q])
      refine ev_iconst dX5_against_103 ic2 ?_
      exact ev_iret dX5_against_104 rfl rfl (by simp only [grC]; first | rw [if_pos (Or.inl e91)] | rw [if_pos (Or.inr e96)] | rw [if_neg (by omega)]) rfl
    · have e96 : shS S c (nI r) = 1 := nI_inj (by omega) (by decide) hc96
      refine ev_iload_n dX5_against_99 rfl ?_
      refine ev_goto (tgt := 104) dX5_against_100 (by decide) ?_
      exact ev_iret dX5_against_104 rfl rfl (by simp only [grC]; first | rw [if_pos (Or.inl e91)] | rw [if_pos (Or.inr e96)] | rw [if_neg (by omega)]) rfl
set_option maxRecDepth 4000 in
theorem qX5_against_scale {G : GX} {w : WS} {S : ST} (hS : cm_ S w) {m : Nat} (hc : hC_ w (.inr (.inr (.inl m)))) : Big G 5 0 mX5_against [.ref 1, .ref 102] w (.inl (some (.int (nI (grC S (.inr (.inr (.inl m)))))))) w := by
  refine big_of (by decide +kernel) (Nat.le_of_ble_eq_true rfl) ?_
  have hS0 := hS
  obtain ⟨hO, hC, hR, hRv, hD, hDv, hM0, hM1, hM2, hM3, hM4⟩ := cm_cells hS
  obtain ⟨hch, hk1, hk2, hk3, hk4⟩ := hS
  show Ev G 5 0 mX5_against 0 [some (.ref 1), some (.ref 102), none] [] w _
  refine ev_aload_n dX5_against_0 rfl ?_
  refine ev_getI fX5_9 dX5_against_1 (by decide) sh102 rfl ?_
  refine ev_top hc.1 ?_
  refine ev_lookup (tgt := 105) (off := 101) dX5_against_4 (by decide) (by decide +kernel) (by decide) ?_
  refine ev_aload_n dX5_against_105 rfl ?_
  refine ev_getI fX5_49 dX5_against_106 (by decide) sh1 rfl ?_
  refine ev_top hM0 ?_
  refine ev_aload_n dX5_against_109 rfl ?_
  refine ev_getI fX5_22 dX5_against_110 (by decide) sh102 rfl ?_
  refine ev_top hc.2 ?_
  refine ev_icmp_ne (tgt := 120) dX5_against_113 (by decide) (fun hc113 => ?_) (fun hc113 => ?_)
  · refine ev_iconst dX5_against_120 ic0 ?_
    exact ev_iret dX5_against_121 rfl rfl (by simp only [grC]; first | rw [if_pos hc113] | rw [if_neg hc113]) rfl
  · refine ev_iconst dX5_against_116 ic1 ?_
    refine ev_goto (tgt := 121) dX5_against_117 (by decide) ?_
    exact ev_iret dX5_against_121 rfl rfl (by simp only [grC]; first | rw [if_pos hc113] | rw [if_neg hc113]) rfl
set_option maxRecDepth 4000 in
theorem qX5_against_river {G : GX} {w : WS} {S : ST} (hS : cm_ S w) {c t l : Nat} {ds : Nat → Nat} (hc : hC_ w (.inr (.inr (.inr (.inl (c, t, l, ds)))))) (hx : c < 64) : Big G 5 0 mX5_against [.ref 1, .ref 102] w (.inl (some (.int (nI (grC S (.inr (.inr (.inr (.inl (c, t, l, ds)))))))))) w := by
  refine big_of (by decide +kernel) (Nat.le_of_ble_eq_true rfl) ?_
  have hS0 := hS
  obtain ⟨hO, hC, hR, hRv, hD, hDv, hM0, hM1, hM2, hM3, hM4⟩ := cm_cells hS
  obtain ⟨hch, hk1, hk2, hk3, hk4⟩ := hS
  show Ev G 5 0 mX5_against 0 [some (.ref 1), some (.ref 102), none] [] w _
  refine ev_aload_n dX5_against_0 rfl ?_
  refine ev_getI fX5_9 dX5_against_1 (by decide) sh102 rfl ?_
  refine ev_top hc.1 ?_
  refine ev_lookup (tgt := 122) (off := 118) dX5_against_4 (by decide) (by decide +kernel) (by decide) ?_
  refine ev_aload_n dX5_against_122 rfl ?_
  refine ev_aload_n dX5_against_123 rfl ?_
  refine ev_callS kX5_52 (qX5_againstRiver hS0 hc.2.1 hx hc.2.2.2) dX5_against_124 rfl (by decide) (by decide) rfl ?_
  exact ev_iret dX5_against_127 rfl rfl rfl rfl
set_option maxRecDepth 4000 in
theorem qX5_against_drop {G : GX} {w : WS} {S : ST} (hS : cm_ S w) {i : Nat} (hc : hC_ w (.inr (.inr (.inr (.inr (.inl i)))))) : Big G 5 0 mX5_against [.ref 1, .ref 102] w (.inl (some (.int (nI (grC S (.inr (.inr (.inr (.inr (.inl i)))))))))) w := by
  refine big_of (by decide +kernel) (Nat.le_of_ble_eq_true rfl) ?_
  have hS0 := hS
  obtain ⟨hO, hC, hR, hRv, hD, hDv, hM0, hM1, hM2, hM3, hM4⟩ := cm_cells hS
  obtain ⟨hch, hk1, hk2, hk3, hk4⟩ := hS
  show Ev G 5 0 mX5_against 0 [some (.ref 1), some (.ref 102), none] [] w _
  refine ev_aload_n dX5_against_0 rfl ?_
  refine ev_getI fX5_9 dX5_against_1 (by decide) sh102 rfl ?_
  refine ev_top hc.1 ?_
  refine ev_lookup (tgt := 141) (off := 137) dX5_against_4 (by decide) (by decide +kernel) (by decide) ?_
  refine ev_iconst dX5_against_141 ic0 ?_
  exact ev_iret dX5_against_142 rfl rfl rfl rfl
set_option maxRecDepth 4000 in
theorem qX5_against_dragon {G : GX} {w : WS} {S : ST} (hS : cm_ S w) {c p : Nat} (hc : hC_ w (.inr (.inr (.inr (.inr (.inr (.inl (c, p)))))))) (hx : c < 64) : Big G 5 0 mX5_against [.ref 1, .ref 102] w (.inl (some (.int (nI (grC S (.inr (.inr (.inr (.inr (.inr (.inl (c, p)))))))))))) w := by
  refine big_of (by decide +kernel) (Nat.le_of_ble_eq_true rfl) ?_
  have hS0 := hS
  obtain ⟨hO, hC, hR, hRv, hD, hDv, hM0, hM1, hM2, hM3, hM4⟩ := cm_cells hS
  obtain ⟨hch, hk1, hk2, hk3, hk4⟩ := hS
  show Ev G 5 0 mX5_against 0 [some (.ref 1), some (.ref 102), none] [] w _
  refine ev_aload_n dX5_against_0 rfl ?_
  refine ev_getI fX5_9 dX5_against_1 (by decide) sh102 rfl ?_
  refine ev_top hc.1 ?_
  refine ev_lookup (tgt := 128) (off := 124) dX5_against_4 (by decide) (by decide +kernel) (by decide) ?_
  refine ev_aload_n dX5_against_128 rfl ?_
  refine ev_aload_n dX5_against_129 rfl ?_
  refine ev_getI fX5_15 dX5_against_130 (by decide) sh102 rfl ?_
  refine ev_top hc.2.1 ?_
  refine ev_aload_n dX5_against_133 rfl ?_
  refine ev_getI fX5_22 dX5_against_134 (by decide) sh102 rfl ?_
  refine ev_top hc.2.2 ?_
  refine ev_callS kX5_56 (qX5_againstDragon hS0 hx) dX5_against_137 rfl (by decide) (by decide) rfl ?_
  exact ev_iret dX5_against_140 rfl rfl rfl rfl
set_option maxRecDepth 4000 in
theorem qX5_against_scare {G : GX} {w : WS} {S : ST} (hS : cm_ S w) {i : Nat} (hc : hC_ w (.inr (.inr (.inr (.inr (.inr (.inr i))))))) : Big G 5 0 mX5_against [.ref 1, .ref 102] w (.inl (some (.int (nI (grC S (.inr (.inr (.inr (.inr (.inr (.inr i))))))))))) w := by
  refine big_of (by decide +kernel) (Nat.le_of_ble_eq_true rfl) ?_
  have hS0 := hS
  obtain ⟨hO, hC, hR, hRv, hD, hDv, hM0, hM1, hM2, hM3, hM4⟩ := cm_cells hS
  obtain ⟨hch, hk1, hk2, hk3, hk4⟩ := hS
  show Ev G 5 0 mX5_against 0 [some (.ref 1), some (.ref 102), none] [] w _
  refine ev_aload_n dX5_against_0 rfl ?_
  refine ev_getI fX5_9 dX5_against_1 (by decide) sh102 rfl ?_
  refine ev_top hc.1 ?_
  refine ev_lookup (tgt := 141) (off := 137) dX5_against_4 (by decide) (by decide +kernel) (by decide) ?_
  refine ev_iconst dX5_against_141 ic0 ?_
  exact ev_iret dX5_against_142 rfl rfl rfl rfl
theorem th_c {S : ST} {c p : Nat} (h : thC S (.inr (.inr (.inr (.inr (.inr (.inl (c, p))))))) = true) : c < 64 ∧ 1 ≤ p ∧ p ≤ 50 := by
  have h : (decide (c < 64) && decide (1 ≤ p ∧ p ≤ 50)) = true := h
  rw [Bool.and_eq_true] at h
  exact ⟨of_decide_eq_true h.1, of_decide_eq_true h.2⟩
theorem qX5_against {G : GX} {w : WS} {S : ST} (hS : cm_ S w) {q : Cmd} (hc : hC_ w q) (ht : thC S q = true) : Big G 5 0 mX5_against [.ref 1, .ref 102] w (.inl (some (.int (nI (grC S q))))) w := by
  rcases q with ⟨c, v⟩ | ⟨c, r⟩ | m | ⟨c, t, l, ds⟩ | i | ⟨c, p⟩ | i
  · exact qX5_against_paint hS hc (of_decide_eq_true ht)
  · exact qX5_against_shave hS hc (of_decide_eq_true ht)
  · exact qX5_against_scale hS hc
  · exact qX5_against_river hS hc (of_decide_eq_true ht)
  · exact qX5_against_drop hS hc
  · exact qX5_against_dragon hS hc (th_c ht).1
  · exact qX5_against_scare hS hc
set_option maxRecDepth 4000 in
theorem qX5_detail_1 {G : GX} {w : WS} {x : Int32} (hx : w.1 102 2 = x) : Big G 4 0 mX5_detail [.ref 1, .ref 102, .int (nI 1)] w (.inl (some (.int (x)))) w := by
  refine big_of (by decide +kernel) (Nat.le_of_ble_eq_true rfl) ?_
  show Ev G 4 0 mX5_detail 0 [some (.ref 1), some (.ref 102), some (.int (nI 1))] [] w _
  refine ev_iload_n dX5_detail_0 rfl ?_
  refine ev_tableIn (tgt := 52) (off := 51) dX5_detail_1 (by decide) (by decide) (by decide +kernel) (by decide) ?_
  refine ev_aload_n dX5_detail_52 rfl ?_
  refine ev_getI fX5_22 dX5_detail_53 (by decide) sh102 rfl ?_
  refine ev_top hx ?_
  exact ev_iret dX5_detail_56 rfl rfl rfl rfl
set_option maxRecDepth 4000 in
theorem qX5_detail_4 {G : GX} {w : WS} {x : Int32} (hx : w.1 102 2 = x) : Big G 4 0 mX5_detail [.ref 1, .ref 102, .int (nI 4)] w (.inl (some (.int (x)))) w := by
  refine big_of (by decide +kernel) (Nat.le_of_ble_eq_true rfl) ?_
  show Ev G 4 0 mX5_detail 0 [some (.ref 1), some (.ref 102), some (.int (nI 4))] [] w _
  refine ev_iload_n dX5_detail_0 rfl ?_
  refine ev_tableIn (tgt := 52) (off := 51) dX5_detail_1 (by decide) (by decide) (by decide +kernel) (by decide) ?_
  refine ev_aload_n dX5_detail_52 rfl ?_
  refine ev_getI fX5_22 dX5_detail_53 (by decide) sh102 rfl ?_
  refine ev_top hx ?_
  exact ev_iret dX5_detail_56 rfl rfl rfl rfl
set_option maxRecDepth 4000 in
theorem qX5_detail_2 {G : GX} {w : WS} {x : Int32} (hx : w.1 102 1 = x) : Big G 4 0 mX5_detail [.ref 1, .ref 102, .int (nI 2)] w (.inl (some (.int (x)))) w := by
  refine big_of (by decide +kernel) (Nat.le_of_ble_eq_true rfl) ?_
  show Ev G 4 0 mX5_detail 0 [some (.ref 1), some (.ref 102), some (.int (nI 2))] [] w _
  refine ev_iload_n dX5_detail_0 rfl ?_
  refine ev_tableIn (tgt := 57) (off := 56) dX5_detail_1 (by decide) (by decide) (by decide +kernel) (by decide) ?_
  refine ev_aload_n dX5_detail_57 rfl ?_
  refine ev_getI fX5_15 dX5_detail_58 (by decide) sh102 rfl ?_
  refine ev_top hx ?_
  exact ev_iret dX5_detail_61 rfl rfl rfl rfl
set_option maxRecDepth 4000 in
theorem qX5_detail_3 {G : GX} {w : WS} {x : Int32} (hx : w.1 102 1 = x) : Big G 4 0 mX5_detail [.ref 1, .ref 102, .int (nI 3)] w (.inl (some (.int (x)))) w := by
  refine big_of (by decide +kernel) (Nat.le_of_ble_eq_true rfl) ?_
  show Ev G 4 0 mX5_detail 0 [some (.ref 1), some (.ref 102), some (.int (nI 3))] [] w _
  refine ev_iload_n dX5_detail_0 rfl ?_
  refine ev_tableIn (tgt := 57) (off := 56) dX5_detail_1 (by decide) (by decide) (by decide +kernel) (by decide) ?_
  refine ev_aload_n dX5_detail_57 rfl ?_
  refine ev_getI fX5_15 dX5_detail_58 (by decide) sh102 rfl ?_
  refine ev_top hx ?_
  exact ev_iret dX5_detail_61 rfl rfl rfl rfl
set_option maxRecDepth 4000 in
theorem qX5_detail_5 {G : GX} {w : WS} {S : ST} (hS : cm_ S w) {c : Nat} (hx : w.1 102 1 = nI c) (hc : c < 64) : Big G 4 0 mX5_detail [.ref 1, .ref 102, .int (nI 5)] w (.inl (some (.int (sO S c)))) w := by
  refine big_of (by decide +kernel) (Nat.le_of_ble_eq_true rfl) ?_
  show Ev G 4 0 mX5_detail 0 [some (.ref 1), some (.ref 102), some (.int (nI 5))] [] w _
  refine ev_iload_n dX5_detail_0 rfl ?_
  refine ev_tableIn (tgt := 62) (off := 61) dX5_detail_1 (by decide) (by decide) (by decide +kernel) (by decide) ?_
  refine ev_aload_n dX5_detail_62 rfl ?_
  refine ev_aload_n dX5_detail_63 rfl ?_
  refine ev_getI fX5_15 dX5_detail_64 (by decide) sh102 rfl ?_
  refine ev_top hx ?_
  refine ev_callV kX5_39 co1 (qX1_ownerAt_y hS hc) dX5_detail_67 rfl (by decide) (by decide) rfl ?_
  exact ev_iret dX5_detail_70 rfl rfl rfl rfl
set_option maxRecDepth 4000 in
theorem qX5_detail_6r {G : GX} {w : WS} (hx : w.1 102 0 = nI 114) : Big G 4 0 mX5_detail [.ref 1, .ref 102, .int (nI 6)] w (.inl (some (.int (nI 4)))) w := by
  refine big_of (by decide +kernel) (Nat.le_of_ble_eq_true rfl) ?_
  show Ev G 4 0 mX5_detail 0 [some (.ref 1), some (.ref 102), some (.int (nI 6))] [] w _
  refine ev_iload_n dX5_detail_0 rfl ?_
  refine ev_tableIn (tgt := 71) (off := 70) dX5_detail_1 (by decide) (by decide) (by decide +kernel) (by decide) ?_
  refine ev_aload_n dX5_detail_71 rfl ?_
  refine ev_getI fX5_9 dX5_detail_72 (by decide) sh102 rfl ?_
  refine ev_top hx ?_
  refine ev_bipush (v := nI 114) dX5_detail_75 (by decide) ?_
  refine ev_icmp_ne_f (tgt := 84) dX5_detail_77 (by decide) rfl ?_
  refine ev_iconst dX5_detail_80 ic4 ?_
  refine ev_goto (tgt := 85) dX5_detail_81 (by decide) ?_
  exact ev_iret dX5_detail_85 rfl rfl rfl rfl
set_option maxRecDepth 4000 in
theorem qX5_detail_6d {G : GX} {w : WS} (hx : w.1 102 0 = nI 100) : Big G 4 0 mX5_detail [.ref 1, .ref 102, .int (nI 6)] w (.inl (some (.int (nI 5)))) w := by
  refine big_of (by decide +kernel) (Nat.le_of_ble_eq_true rfl) ?_
  show Ev G 4 0 mX5_detail 0 [some (.ref 1), some (.ref 102), some (.int (nI 6))] [] w _
  refine ev_iload_n dX5_detail_0 rfl ?_
  refine ev_tableIn (tgt := 71) (off := 70) dX5_detail_1 (by decide) (by decide) (by decide +kernel) (by decide) ?_
  refine ev_aload_n dX5_detail_71 rfl ?_
  refine ev_getI fX5_9 dX5_detail_72 (by decide) sh102 rfl ?_
  refine ev_top hx ?_
  refine ev_bipush (v := nI 114) dX5_detail_75 (by decide) ?_
  refine ev_icmp_ne_t (tgt := 84) dX5_detail_77 (by decide) (by decide) ?_
  refine ev_iconst dX5_detail_84 ic5 ?_
  exact ev_iret dX5_detail_85 rfl rfl rfl rfl
set_option maxRecDepth 4000 in
theorem qX5_detail_7 {G : GX} {w : WS} {c l : Nat} {ds : Nat → Nat} (hcc : w.1 102 1 = nI c) (hc : c < 64) (hcs : cs2_ w l ds) : Big G 4 0 mX5_detail [.ref 1, .ref 102, .int (nI 7)] w (.inl (some (.int (oI (lv_ c ds l))))) w := by
  refine big_of (by decide +kernel) (Nat.le_of_ble_eq_true rfl) ?_
  show Ev G 4 0 mX5_detail 0 [some (.ref 1), some (.ref 102), some (.int (nI 7))] [] w _
  refine ev_iload_n dX5_detail_0 rfl ?_
  refine ev_tableIn (tgt := 86) (off := 85) dX5_detail_1 (by decide) (by decide) (by decide +kernel) (by decide) ?_
  refine ev_aload_n dX5_detail_86 rfl ?_
  refine ev_callV kX5_69 co102 (qX2_leavingStep hcc hc hcs) dX5_detail_87 rfl (by decide) (by decide) rfl ?_
  exact ev_iret dX5_detail_90 rfl rfl rfl rfl
set_option maxRecDepth 4000 in
theorem qX5_detail_8 {G : GX} {w : WS} {S : ST} (hS : cm_ S w) {c : Nat} (hx : w.1 102 1 = nI c) (hc : c < 64) : Big G 4 0 mX5_detail [.ref 1, .ref 102, .int (nI 8)] w (.inl (some (.int (oI (dOn S c))))) w := by
  refine big_of (by decide +kernel) (Nat.le_of_ble_eq_true rfl) ?_
  show Ev G 4 0 mX5_detail 0 [some (.ref 1), some (.ref 102), some (.int (nI 8))] [] w _
  refine ev_iload_n dX5_detail_0 rfl ?_
  refine ev_tableIn (tgt := 91) (off := 90) dX5_detail_1 (by decide) (by decide) (by decide +kernel) (by decide) ?_
  refine ev_aload_n dX5_detail_91 rfl ?_
  refine ev_aload_n dX5_detail_92 rfl ?_
  refine ev_getI fX5_15 dX5_detail_93 (by decide) sh102 rfl ?_
  refine ev_top hx ?_
  refine ev_callV kX5_73 co1 (qX1_dragonOn hS hc) dX5_detail_96 rfl (by decide) (by decide) rfl ?_
  exact ev_iret dX5_detail_99 rfl rfl rfl rfl
set_option maxRecDepth 4000 in
theorem qX5_detail_9 {G : GX} {w : WS} {S : ST} (hS : cm_ S w) {c a : Nat} (hx : w.1 102 1 = nI c) (hc : c < 64) (ha : a < 4) (ho : sO S c = nI a) : Big G 4 0 mX5_detail [.ref 1, .ref 102, .int (nI 9)] w (.inl (some (.int (sC S a)))) w := by
  refine big_of (by decide +kernel) (Nat.le_of_ble_eq_true rfl) ?_
  show Ev G 4 0 mX5_detail 0 [some (.ref 1), some (.ref 102), some (.int (nI 9))] [] w _
  refine ev_iload_n dX5_detail_0 rfl ?_
  refine ev_tableIn (tgt := 100) (off := 99) dX5_detail_1 (by decide) (by decide) (by decide +kernel) (by decide) ?_
  refine ev_aload_n dX5_detail_100 rfl ?_
  refine ev_aload_n dX5_detail_101 rfl ?_
  refine ev_aload_n dX5_detail_102 rfl ?_
  refine ev_getI fX5_15 dX5_detail_103 (by decide) sh102 rfl ?_
  refine ev_top hx ?_
  refine ev_callV kX5_39 co1 (qX1_ownerAt_y hS hc) dX5_detail_106 rfl (by decide) (by decide) rfl ?_
  rw [ho]
  refine ev_callV kX5_79 co1 (qX1_coinsOf_y hS ha) dX5_detail_109 rfl (by decide) (by decide) rfl ?_
  exact ev_iret dX5_detail_112 rfl rfl rfl rfl
set_option maxRecDepth 4000 in
theorem qX1_carryOut_paint {G : GX} {w : WS} {S : ST} (hS : cm_ S w) {c : Nat} {v : Int32} (hc : hC_ w (.inl (c, v))) (hx : c < 64) (hv : r5 v) : ∃ w2, Big G 5 0 mX1_carryOut [.ref 1, .ref 102] w (.inl (some (.int (crt S (.inl (c, v)))))) w2 ∧ chA (cdo S (.inl (c, v))) w2 1 ∧ fr1 w w2 := by
  have hS0 := hS
  obtain ⟨hO, hC, hR, hRv, hD, hDv, hM0, hM1, hM2, hM3, hM4⟩ := cm_cells hS
  obtain ⟨hch, hk1, hk2, hk3, hk4⟩ := hS
  obtain ⟨w2, hB, hA2, hF⟩ := qX1_give (G := G) hS0 hx hv
  refine ⟨_, ?_, hA2, hF⟩
  refine big_of (by decide +kernel) (Nat.le_of_ble_eq_true rfl) ?_
  show Ev G 5 0 mX1_carryOut 0 [some (.ref 1), some (.ref 102)] [] w _
  refine ev_aload_n dX1_carryOut_0 rfl ?_
  refine ev_getI fX1_97 dX1_carryOut_1 (by decide) sh102 rfl ?_
  refine ev_top hc.1 ?_
  refine ev_tableIn (tgt := 84) (off := 80) dX1_carryOut_4 (by decide) (by decide) (by decide +kernel) (by decide) ?_
  refine ev_aload_n dX1_carryOut_84 rfl ?_
  refine ev_aload_n dX1_carryOut_85 rfl ?_
  refine ev_getI fX1_102 dX1_carryOut_86 (by decide) sh102 rfl ?_
  refine ev_top hc.2.1 ?_
  refine ev_aload_n dX1_carryOut_89 rfl ?_
  refine ev_getI fX1_105 dX1_carryOut_90 (by decide) sh102 rfl ?_
  refine ev_top hc.2.2 ?_
  refine ev_callV kX1_108 co1 hB dX1_carryOut_93 rfl (by decide) (by decide) rfl ?_
  exact ev_iret dX1_carryOut_96 rfl rfl rfl rfl
set_option maxRecDepth 4000 in
theorem qX1_carryOut_shave {G : GX} {w : WS} {S : ST} (hS : cm_ S w) {c r : Nat} (hc : hC_ w (.inr (.inl (c, r)))) (hx : c < 64) (hr : r < 4) (hg : grC S (.inr (.inl (c, r))) = 0) : ∃ w2, Big G 5 0 mX1_carryOut [.ref 1, .ref 102] w (.inl (some (.int (crt S (.inr (.inl (c, r))))))) w2 ∧ chA (cdo S (.inr (.inl (c, r)))) w2 1 ∧ fr1 w w2 := by
  have hS0 := hS
  obtain ⟨hO, hC, hR, hRv, hD, hDv, hM0, hM1, hM2, hM3, hM4⟩ := cm_cells hS
  obtain ⟨hch, hk1, hk2, hk3, hk4⟩ := hS
  have hg0 : shS S c (nI r) = 0 := by
    simp only [grC] at hg
    by_cases h : shS S c (nI r) = 0 ∨ shS S c (nI r) = 1
    · rw [if_pos h] at hg; exact hg
    · rw [if_neg h] at hg; exact absurd hg (by decide)
  have hne : sO S c ≠ -1 := by
    intro q
    unfold shS at hg0
    by_cases h : sO S c = nI r
    · rw [if_pos h] at hg0; exact absurd hg0 (by decide)
    · rw [if_neg h, if_pos q] at hg0; exact absurd hg0 (by decide)
  obtain ⟨a, ha, hoa, hon⟩ := ow_ hS0.2 hx hne
  obtain ⟨w2, hB, hA2, hF⟩ := qX1_conquer (G := G) hS0 hx ha hr hoa
  rw [← hoa] at hB
  rw [show a = oN_ (sO S c) from hon.symm] at hA2
  refine ⟨_, ?_, hA2, hF⟩
  refine big_of (by decide +kernel) (Nat.le_of_ble_eq_true rfl) ?_
  show Ev G 5 0 mX1_carryOut 0 [some (.ref 1), some (.ref 102)] [] w _
  refine ev_aload_n dX1_carryOut_0 rfl ?_
  refine ev_getI fX1_97 dX1_carryOut_1 (by decide) sh102 rfl ?_
  refine ev_top hc.1 ?_
  refine ev_tableIn (tgt := 97) (off := 93) dX1_carryOut_4 (by decide) (by decide) (by decide +kernel) (by decide) ?_
  refine ev_aload_n dX1_carryOut_97 rfl ?_
  refine ev_aload_n dX1_carryOut_98 rfl ?_
  refine ev_getI fX1_102 dX1_carryOut_99 (by decide) sh102 rfl ?_
  refine ev_top hc.2.1 ?_
  refine ev_aload_n dX1_carryOut_102 rfl ?_
  refine ev_getI fX1_105 dX1_carryOut_103 (by decide) sh102 rfl ?_
  refine ev_top hc.2.2 ?_
  refine ev_callV kX1_111 co1 hB dX1_carryOut_106 rfl (by decide) (by decide) rfl ?_
  exact ev_iret dX1_carryOut_109 rfl rfl rfl rfl
set_option maxRecDepth 4000 in
theorem qX1_carryOut_scale {G : GX} {w : WS} {S : ST} (hS : cm_ S w) {m : Nat} (hc : hC_ w (.inr (.inr (.inl m)))) (h1 : 1 ≤ m) (h9 : m ≤ 9) : ∃ w2, Big G 5 0 mX1_carryOut [.ref 1, .ref 102] w (.inl (some (.int (crt S (.inr (.inr (.inl m))))))) w2 ∧ chA (cdo S (.inr (.inr (.inl m)))) w2 1 ∧ fr1 w w2 := by
  have hS0 := hS
  obtain ⟨hO, hC, hR, hRv, hD, hDv, hM0, hM1, hM2, hM3, hM4⟩ := cm_cells hS
  obtain ⟨hch, hk1, hk2, hk3, hk4⟩ := hS
  have hB := qX1_setMiles (G := G) hS0 (k := m)
  have hA2 := ch_misc hch (j := 0) (by decide) (nI m)
  have hF : fr1 w (cs_ w 1 (upd (w.1 1) 12 (nI m))) := fr1_cs fr1_rf (by decide) _
  refine ⟨_, ?_, hA2, hF⟩
  refine big_of (by decide +kernel) (Nat.le_of_ble_eq_true rfl) ?_
  show Ev G 5 0 mX1_carryOut 0 [some (.ref 1), some (.ref 102)] [] w _
  refine ev_aload_n dX1_carryOut_0 rfl ?_
  refine ev_getI fX1_97 dX1_carryOut_1 (by decide) sh102 rfl ?_
  refine ev_top hc.1 ?_
  refine ev_tableIn (tgt := 110) (off := 106) dX1_carryOut_4 (by decide) (by decide) (by decide +kernel) (by decide) ?_
  refine ev_aload_n dX1_carryOut_110 rfl ?_
  refine ev_aload_n dX1_carryOut_111 rfl ?_
  refine ev_getI fX1_105 dX1_carryOut_112 (by decide) sh102 rfl ?_
  refine ev_top hc.2 ?_
  refine ev_callV kX1_114 co1 hB dX1_carryOut_115 rfl (by decide) (by decide) rfl ?_
  exact ev_iret dX1_carryOut_118 rfl rfl rfl rfl
set_option maxRecDepth 4000 in
theorem qX1_carryOut_river {G : GX} {w : WS} {S : ST} (hS : cm_ S w) {c t l : Nat} {ds : Nat → Nat} (hc : hC_ w (.inr (.inr (.inr (.inl (c, t, l, ds)))))) (hx : c < 64) (hg : grC S (.inr (.inr (.inr (.inl (c, t, l, ds))))) = 0) : ∃ w2, Big G 5 0 mX1_carryOut [.ref 1, .ref 102] w (.inl (some (.int (crt S (.inr (.inr (.inr (.inl (c, t, l, ds))))))))) w2 ∧ chA (cdo S (.inr (.inr (.inr (.inl (c, t, l, ds)))))) w2 1 ∧ fr1 w w2 := by
  have hS0 := hS
  obtain ⟨hO, hC, hR, hRv, hD, hDv, hM0, hM1, hM2, hM3, hM4⟩ := cm_cells hS
  obtain ⟨hch, hk1, hk2, hk3, hk4⟩ := hS
  have hg : rvS S c l ds = 0 := hg
  have hn : nR S < 4 := by
    unfold rvS at hg
    by_cases h : 4 ≤ nR S
    · rw [if_pos h] at hg; exact absurd hg (by decide)
    · omega
  have hl : lv_ c ds l = none := by
    unfold rvS at hg
    rw [if_neg (by omega)] at hg
    cases e : lv_ c ds l with
    | none => rfl
    | some y => rw [e] at hg; exact absurd (show (7 : Nat) = 0 from hg) (by decide)
  have hcs : cs2_ w l ds := hc.2.2.2
  have hB := qX1_addRiver (G := G) hS0 (pl := plN c ds) (t := t) (k0 := nI 114) ⟨hc.1, hc.2.1, hc.2.2.1⟩ hcs hn (fun q hq => plN_lt hx hl (Nat.le_of_lt hq)) (fun q hq => plN_nb hl hq)
  have hA2 := ch_ar hch (plN c ds) l t hS0.2 hcs.1 (f7 := upd (w.1 7) (nR S) (nI l)) (f8 := upd (w.1 8) (nR S) (nI t)) (f1 := upd (w.1 1) 10 (nI (nR S + 1))) rfl rfl rfl
  have hF : fr1 w (cs_ (cs_ (cs_ (cs_ w 6 (plw w (nR S) (plN c ds) l)) 7 (upd (w.1 7) (nR S) (nI l))) 8 (upd (w.1 8) (nR S) (nI t))) 1 (upd (w.1 1) 10 (nI (nR S + 1)))) := fr1_cs (fr1_cs (fr1_cs (fr1_cs fr1_rf (by decide) _) (by decide) _) (by decide) _) (by decide) _
  refine ⟨_, ?_, hA2, hF⟩
  refine big_of (by decide +kernel) (Nat.le_of_ble_eq_true rfl) ?_
  show Ev G 5 0 mX1_carryOut 0 [some (.ref 1), some (.ref 102)] [] w _
  refine ev_aload_n dX1_carryOut_0 rfl ?_
  refine ev_getI fX1_97 dX1_carryOut_1 (by decide) sh102 rfl ?_
  refine ev_top hc.1 ?_
  refine ev_tableIn (tgt := 119) (off := 115) dX1_carryOut_4 (by decide) (by decide) (by decide +kernel) (by decide) ?_
  refine ev_aload_n dX1_carryOut_119 rfl ?_
  refine ev_aload_n dX1_carryOut_120 rfl ?_
  refine ev_callV kX1_117 co1 hB dX1_carryOut_121 rfl (by decide) (by decide) rfl ?_
  exact ev_iret dX1_carryOut_124 rfl rfl rfl rfl
set_option maxRecDepth 4000 in
theorem qX1_carryOut_drop {G : GX} {w : WS} {S : ST} (hS : cm_ S w) {i : Nat} (hc : hC_ w (.inr (.inr (.inr (.inr (.inl i)))))) (hx : i < nR S) : ∃ w2, Big G 5 0 mX1_carryOut [.ref 1, .ref 102] w (.inl (some (.int (crt S (.inr (.inr (.inr (.inr (.inl i))))))))) w2 ∧ chA (cdo S (.inr (.inr (.inr (.inr (.inl i)))))) w2 1 ∧ fr1 w w2 := by
  have hS0 := hS
  obtain ⟨hO, hC, hR, hRv, hD, hDv, hM0, hM1, hM2, hM3, hM4⟩ := cm_cells hS
  obtain ⟨hch, hk1, hk2, hk3, hk4⟩ := hS
  have hB := qX1_removeRiver (G := G) hS0 hx
  have hA2 := ch_rr hch hS0.2 hx
  have hF := fr1_rr (w := w) (i := i) (n := nR S)
  refine ⟨_, ?_, hA2, hF⟩
  refine big_of (by decide +kernel) (Nat.le_of_ble_eq_true rfl) ?_
  show Ev G 5 0 mX1_carryOut 0 [some (.ref 1), some (.ref 102)] [] w _
  refine ev_aload_n dX1_carryOut_0 rfl ?_
  refine ev_getI fX1_97 dX1_carryOut_1 (by decide) sh102 rfl ?_
  refine ev_top hc.1 ?_
  refine ev_tableIn (tgt := 125) (off := 121) dX1_carryOut_4 (by decide) (by decide) (by decide +kernel) (by decide) ?_
  refine ev_aload_n dX1_carryOut_125 rfl ?_
  refine ev_aload_n dX1_carryOut_126 rfl ?_
  refine ev_getI fX1_105 dX1_carryOut_127 (by decide) sh102 rfl ?_
  refine ev_top hc.2 ?_
  refine ev_callV kX1_121 co1 hB dX1_carryOut_130 rfl (by decide) (by decide) rfl ?_
  exact ev_iret dX1_carryOut_133 rfl rfl rfl rfl
set_option maxRecDepth 4000 in
theorem qX1_carryOut_dragon {G : GX} {w : WS} {S : ST} (hS : cm_ S w) {c p : Nat} (hc : hC_ w (.inr (.inr (.inr (.inr (.inr (.inl (c, p)))))))) (hx : c < 64) (hg : grC S (.inr (.inr (.inr (.inr (.inr (.inl (c, p))))))) = 0) : ∃ w2, Big G 5 0 mX1_carryOut [.ref 1, .ref 102] w (.inl (some (.int (crt S (.inr (.inr (.inr (.inr (.inr (.inl (c, p))))))))))) w2 ∧ chA (cdo S (.inr (.inr (.inr (.inr (.inr (.inl (c, p)))))))) w2 1 ∧ fr1 w w2 := by
  have hS0 := hS
  obtain ⟨hO, hC, hR, hRv, hD, hDv, hM0, hM1, hM2, hM3, hM4⟩ := cm_cells hS
  obtain ⟨hch, hk1, hk2, hk3, hk4⟩ := hS
  have hg : drS S c p = 0 := hg
  have hne : sO S c ≠ -1 := by
    intro q
    unfold drS at hg
    rw [if_pos q] at hg; exact absurd hg (by decide)
  have hn : nD S < 5 := by
    unfold drS at hg
    rw [if_neg hne] at hg
    by_cases h : (dOn S c).isSome = true
    · rw [if_pos h] at hg; exact absurd hg (by decide)
    · rw [if_neg h] at hg
      by_cases h2 : 5 ≤ nD S
      · rw [if_pos h2] at hg; exact absurd hg (by decide)
      · omega
  obtain ⟨a, ha, hoa, hon⟩ := ow_ hS0.2 hx hne
  obtain ⟨w2, hB, hA2, hF⟩ := qX1_addDragon (G := G) (p := p) hS0 hx ha hoa hn
  rw [← hon] at hA2
  refine ⟨_, ?_, hA2, hF⟩
  refine big_of (by decide +kernel) (Nat.le_of_ble_eq_true rfl) ?_
  show Ev G 5 0 mX1_carryOut 0 [some (.ref 1), some (.ref 102)] [] w _
  refine ev_aload_n dX1_carryOut_0 rfl ?_
  refine ev_getI fX1_97 dX1_carryOut_1 (by decide) sh102 rfl ?_
  refine ev_top hc.1 ?_
  refine ev_tableIn (tgt := 134) (off := 130) dX1_carryOut_4 (by decide) (by decide) (by decide +kernel) (by decide) ?_
  refine ev_aload_n dX1_carryOut_134 rfl ?_
  refine ev_aload_n dX1_carryOut_135 rfl ?_
  refine ev_getI fX1_102 dX1_carryOut_136 (by decide) sh102 rfl ?_
  refine ev_top hc.2.1 ?_
  refine ev_aload_n dX1_carryOut_139 rfl ?_
  refine ev_getI fX1_105 dX1_carryOut_140 (by decide) sh102 rfl ?_
  refine ev_top hc.2.2 ?_
  refine ev_callV kX1_124 co1 hB dX1_carryOut_143 rfl (by decide) (by decide) rfl ?_
  exact ev_iret dX1_carryOut_146 rfl rfl rfl rfl
set_option maxRecDepth 4000 in
theorem qX1_carryOut_scare {G : GX} {w : WS} {S : ST} (hS : cm_ S w) {i : Nat} (hc : hC_ w (.inr (.inr (.inr (.inr (.inr (.inr i))))))) (hx : i < nD S) : ∃ w2, Big G 5 0 mX1_carryOut [.ref 1, .ref 102] w (.inl (some (.int (crt S (.inr (.inr (.inr (.inr (.inr (.inr i)))))))))) w2 ∧ chA (cdo S (.inr (.inr (.inr (.inr (.inr (.inr i))))))) w2 1 ∧ fr1 w w2 := by
  have hS0 := hS
  obtain ⟨hO, hC, hR, hRv, hD, hDv, hM0, hM1, hM2, hM3, hM4⟩ := cm_cells hS
  obtain ⟨hch, hk1, hk2, hk3, hk4⟩ := hS
  obtain ⟨w2, hB, hA2, hF⟩ := qX1_chase (G := G) hS0 hx
  refine ⟨_, ?_, hA2, hF⟩
  refine big_of (by decide +kernel) (Nat.le_of_ble_eq_true rfl) ?_
  show Ev G 5 0 mX1_carryOut 0 [some (.ref 1), some (.ref 102)] [] w _
  refine ev_aload_n dX1_carryOut_0 rfl ?_
  refine ev_getI fX1_97 dX1_carryOut_1 (by decide) sh102 rfl ?_
  refine ev_top hc.1 ?_
  refine ev_tableIn (tgt := 147) (off := 143) dX1_carryOut_4 (by decide) (by decide) (by decide +kernel) (by decide) ?_
  refine ev_aload_n dX1_carryOut_147 rfl ?_
  refine ev_aload_n dX1_carryOut_148 rfl ?_
  refine ev_getI fX1_105 dX1_carryOut_149 (by decide) sh102 rfl ?_
  refine ev_top hc.2 ?_
  refine ev_callV kX1_127 co1 hB dX1_carryOut_152 rfl (by decide) (by decide) rfl ?_
  exact ev_iret dX1_carryOut_155 rfl rfl rfl rfl
theorem qX1_carryOut {G : GX} {w : WS} {S : ST} (hS : cm_ S w) {q : Cmd} (hc : hC_ w q) (ho : okC q) (ht : thC S q = true) (hg : grC S q = 0) : ∃ w2, Big G 5 0 mX1_carryOut [.ref 1, .ref 102] w (.inl (some (.int (crt S q)))) w2 ∧ chA (cdo S q) w2 1 ∧ fr1 w w2 := by
  rcases q with ⟨c, v⟩ | ⟨c, r⟩ | m | ⟨c, t, l, ds⟩ | i | ⟨c, p⟩ | i
  · exact qX1_carryOut_paint hS hc (of_decide_eq_true ht) ho.2
  · exact qX1_carryOut_shave hS hc (of_decide_eq_true ht) ho.2 hg
  · exact qX1_carryOut_scale hS hc (of_decide_eq_true ht : 1 ≤ m ∧ m ≤ 9).1 (of_decide_eq_true ht : 1 ≤ m ∧ m ≤ 9).2
  · exact qX1_carryOut_river hS hc (of_decide_eq_true ht) hg
  · exact qX1_carryOut_drop hS hc (of_decide_eq_true ht)
  · exact qX1_carryOut_dragon hS hc (th_c ht).1 hg
  · exact qX1_carryOut_scare hS hc (of_decide_eq_true ht)
/-- what a command leaves is sound -/
theorem ok_do {S : ST} (h : okS S) {q : Cmd} (ho : okC q) (ht : thC S q = true) (hg : grC S q = 0) : okS (cdo S q) := by
  rcases q with ⟨c, v⟩ | ⟨c, r⟩ | m | ⟨c, t, l, ds⟩ | i | ⟨c, p⟩ | i
  · exact ok_gv h ho.2
  · exact ok_sh h ho.2
  · exact ok_mi h (of_decide_eq_true ht : 1 ≤ m ∧ m ≤ 9).1 (of_decide_eq_true ht : 1 ≤ m ∧ m ≤ 9).2
  ·
    have hx : c < 64 := of_decide_eq_true ht
    have hg : rvS S c l ds = 0 := hg
    have hn : nR S < 4 := by
      unfold rvS at hg
      by_cases h : 4 ≤ nR S
      · rw [if_pos h] at hg; exact absurd hg (by decide)
      · omega
    have hl : lv_ c ds l = none := by
      unfold rvS at hg
      rw [if_neg (by omega)] at hg
      cases e : lv_ c ds l with
      | none => rfl
      | some y => rw [e] at hg; exact absurd (show (7 : Nat) = 0 from hg) (by decide)
    obtain ⟨h1, h2, h3, h4, h5⟩ := ho
    exact ok_ar h hn (by omega) h3 h4 (fun q hq => plN_lt hx hl hq) (fun q hq => ⟨ds q, h5 q hq, plN_nb hl hq⟩)
  · exact ok_rr h (of_decide_eq_true ht)
  ·
    obtain ⟨hx, h1, h50⟩ := th_c ht
    have hg : drS S c p = 0 := hg
    have hne : sO S c ≠ -1 := by
      intro q
      unfold drS at hg
      rw [if_pos q] at hg; exact absurd hg (by decide)
    unfold drS at hg
    rw [if_neg hne] at hg
    by_cases h2 : (dOn S c).isSome = true
    · rw [if_pos h2] at hg; exact absurd hg (by decide)
    · rw [if_neg h2] at hg
      by_cases h3 : 5 ≤ nD S
      · rw [if_pos h3] at hg; exact absurd hg (by decide)
      · obtain ⟨a, ha, hoa, hon⟩ := ow_ h hx hne
        refine ok_ad h (by omega) hx h1 h50 (by rw [hon]; exact ha) ?_
        cases e : dOn S c with
        | none => rfl
        | some y => rw [e] at h2; exact absurd rfl h2
  · exact ok_sc h (of_decide_eq_true ht)
