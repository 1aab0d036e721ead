/-! the reference: lines, memory; its queries over the whole memory -/
theorem mX_t {A : AS} {w : WS} {k : Nat} (h : mX A w) : mX A (wT w k) := mX_e h rfl rfl rfl rfl rfl rfl (frG_cs frG_rf (by decide) _)
theorem mo_q {G : GX} {d : Nat} {M : MT} {args : List Value} {A : AS} {w : WS} {r : Nat × Int32} (h : mX A w) (hB : ∃ v, (r.1 = 0 → v = r.2) ∧ Big G d 0 M args w (.inl (some (.int v))) (wT w r.1)) : ∃ o w2, pMo (r, A) w o w2 ∧ Big G d 0 M args w o w2 := by
  obtain ⟨v, hv, hB⟩ := hB
  exact ⟨_, _, ⟨v, rfl, hv, rfl, mX_t h, frG_cs frG_rf (by decide) _⟩, hB⟩
theorem mo_p {G : GX} {d : Nat} {M : MT} {args : List Value} {A : AS} {w : WS} {r : Nat × Int32} (h : mX A w) (hB : ∃ o w2, pPt r w o w2 ∧ Big G d 0 M args w o w2) : ∃ o w2, pMo (r, A) w o w2 ∧ Big G d 0 M args w o w2 := by
  obtain ⟨o, w2, ⟨v, h1, h2, h3⟩, hB⟩ := hB
  have e := frG_at h3 (k := 115) (by decide)
  refine ⟨o, w2, ⟨v, h1, h2, by rw [e]; rfl, mX_e (mX_t (k := r.1) h) (frG_at h3 (by decide)) (by rw [e]) (by rw [e]) (by rw [e]) (by rw [e]) (by rw [e]) (frG_mo h3 (by decide)), frG_tr (frG_cs frG_rf (by decide) _) (frG_mo h3 (by decide))⟩, hB⟩
def wSy (w : WS) (n : Nat) (x : Int32) : WS := cs_ (cs_ w 122 (upd (w.1 122) n x)) 115 (upd (w.1 115) 11 (nI (n + 1)))
theorem lnM_0 {w : WS} : lnM [] (cs_ w 115 (upd (w.1 115) 11 (nI 0))) := ⟨rfl, by decide, fun i v h => by simp at h⟩
theorem lnM_s {l : List Nat} {w : WS} (h : lnM l w) (hl : l.length < 40) {v : Nat} (hv : v < 128) : lnM (l ++ [v]) (wSy w l.length (nI v)) := by
  obtain ⟨h1, h2, h3⟩ := h
  refine ⟨by simp [wSy, cs_, upd], by simp; omega, fun i z hz => ?_⟩
  show upd (w.1 122) l.length (nI v) i = nI z ∧ z < 128
  unfold upd
  by_cases e : i = l.length
  · subst e
    simp at hz
    subst hz
    exact ⟨if_pos rfl, hv⟩
  · rw [if_neg e]
    apply h3
    rw [List.getElem?_append] at hz
    split at hz
    · exact hz
    · rw [List.getElem?_singleton] at hz
      split at hz
      · omega
      · cases hz
def wNy (w : WS) (n v : Nat) : WS := if v < 10 then wSy w n (nI (48 + v)) else wSy (wSy w n (nI (48 + v / 10))) (n + 1) (nI (48 + v % 10))
theorem lnM_n {l : List Nat} {w : WS} (h : lnM l w) (hl : l.length + 2 ≤ 40) {v : Nat} (hv : v < 100) : lnM (l ++ nuL v) (wNy w l.length v) := by
  unfold nuL wNy
  by_cases e : v < 10
  · rw [if_pos e, if_pos e]; exact lnM_s h (by omega) (by omega)
  · rw [if_neg e, if_neg e]
    have h1 := lnM_s h (by omega) (v := 48 + v / 10) (by omega)
    have h2 := lnM_s h1 (by rw [List.length_append]; show l.length + 1 < 40; omega) (v := 48 + v % 10) (by omega)
    rw [List.append_assoc, List.length_append] at h2
    exact h2
/-- only the line changed -/
def frY (w w2 : WS) : Prop := frG [(115, 115), (122, 122)] w w2 ∧ ∀ j, j ≠ 11 → w2.1 115 j = w.1 115 j
theorem frY_rf {w : WS} : frY w w := ⟨frG_rf, fun _ _ => rfl⟩
theorem frY_tr {w w1 w2 : WS} (h : frY w w1) (h2 : frY w1 w2) : frY w w2 := ⟨frG_tr h.1 h2.1, fun j hj => (h2.2 j hj).trans (h.2 j hj)⟩
theorem frY_0 {w : WS} : frY w (cs_ w 115 (upd (w.1 115) 11 (nI 0))) := ⟨frG_cs frG_rf (by decide) _, fun j hj => by show upd (w.1 115) 11 _ j = _; exact pk_un hj⟩
theorem frY_s {w : WS} {n : Nat} {x : Int32} : frY w (wSy w n x) := ⟨frG_cs (frG_cs frG_rf (by decide) _) (by decide) _, fun j hj => by show upd (w.1 115) 11 _ j = _; exact pk_un hj⟩
theorem frY_n {w : WS} {n v : Nat} : frY w (wNy w n v) := by
  unfold wNy
  split
  · exact frY_s
  · exact frY_tr frY_s frY_s
theorem mX_l {A : AS} {w w2 : WS} (h : mX A w) {l : List Nat} (hl : lnM l w2) (hf : frY w w2) : mX (mkA (aS A) (aV A) (aH A) (aN A) (aT A) l (aK A) (aE A)) w2 := by
  obtain ⟨g1, g2, g3, g4, g5, g6, g7, g8⟩ := h
  obtain ⟨hf, e15⟩ := hf
  refine ⟨mRe g1 (frG_at hf (by decide)), ⟨fun z => (e15 3 (by decide)).trans (g2.1 z), fun V hV => ⟨(e15 3 (by decide)).trans (g2.2 V hV).1, by rw [frG_at hf (by decide)]; exact (g2.2 V hV).2.1, (g2.2 V hV).2.2⟩⟩, ⟨(e15 5 (by decide)).trans g3.1, g3.2.1, fun i V hV => ⟨by rw [frG_at hf (by decide)]; exact (g3.2.2 i V hV).1, (g3.2.2 i V hV).2⟩⟩, ⟨(e15 13 (by decide)).trans g4.1, g4.2.1, fun i hi => by rw [frG_at hf (by decide)]; exact g4.2.2 i hi⟩, hl, by rw [frG_at hf (by decide)]; exact g6, (e15 16 (by decide)).trans g7, g8⟩
theorem mRy {S : ST} {w w2 : WS} (h : mR S w) (hf : frY w w2) : mR S w2 := mRe h (frG_at hf.1 (by decide))
set_option maxRecDepth 4000 in
theorem qX12_says {G : GX} {w : WS} {n : Nat} {x : Int32} (hn : w.1 115 11 = nI n) (h4 : n < 40) (hx : vp_nar .char x = x) : Big G 1 0 mX12_says [.ref 115, .int x] w (.inl none) (wSy w n x) := by
  refine big_of (by decide +kernel) (Nat.le_of_ble_eq_true rfl) ?_
  show Ev G 1 0 mX12_says 0 [some (.ref 115), some (.int x)] [] w _
  refine ev_aload_n dX12_says_0 rfl ?_
  refine ev_getR fX12_29 dX12_says_1 (by decide) sh115 rfl ?_
  refine ev_aload_n dX12_says_4 rfl ?_
  refine ev_getI fX12_215 dX12_says_5 (by decide) sh115 rfl ?_
  refine ev_top hn ?_
  refine ev_iload_n dX12_says_8 rfl ?_
  refine ev_castore dX12_says_9 rfl (by omega) hx (by decide) sh122 ?_
  refine ev_aload_n dX12_says_10 rfl ?_
  refine ev_dup dX12_says_11 rfl ?_
  refine ev_getI fX12_215 dX12_says_12 (by decide) sh115 rfl ?_
  refine ev_top hn ?_
  refine ev_iconst dX12_says_15 ic1 ?_
  refine ev_iadd dX12_says_16 ?_
  refine ev_top (nI_add _ _) ?_
  refine ev_put fX12_215 dX12_says_17 rfl rfl (by decide) sh115 rfl ?_
  exact ev_vret dX12_says_20 rfl rfl rfl
set_option maxRecDepth 4000 in
theorem qX12_saysNumber_1 {G : GX} {w : WS} {n v : Nat} (hn : w.1 115 11 = nI n) (h4 : n < 40) (hv : v < 10) : Big G 2 0 mX12_saysNumber [.ref 115, .int (nI v)] w (.inl none) (wSy w n (nI (48 + v))) := by
  refine big_of (by decide +kernel) (Nat.le_of_ble_eq_true rfl) ?_
  show Ev G 2 0 mX12_saysNumber 0 [some (.ref 115), some (.int (nI v))] [] w _
  refine ev_iload_n dX12_saysNumber_0 rfl ?_
  refine ev_bipush (v := nI 9) dX12_saysNumber_1 (by decide) ?_
  refine ev_icmp_le_t (tgt := 14) dX12_saysNumber_3 (by decide) (nI_le (by omega) (by decide)) ?_
  refine ev_aload_n dX12_saysNumber_14 rfl ?_
  refine ev_bipush (v := nI 48) dX12_saysNumber_15 (by decide) ?_
  refine ev_iload_n dX12_saysNumber_17 rfl ?_
  refine ev_bipush (v := nI 10) dX12_saysNumber_18 (by decide) ?_
  refine ev_irem dX12_saysNumber_20 (by decide) ?_
  refine ev_top (pk_rem (by omega) (by decide) (by decide)) ?_
  refine ev_iadd dX12_saysNumber_21 ?_
  first | refine ev_top (nI_add _ _) ?_ | skip
  refine ev_i2c dX12_saysNumber_22 (pC_i2c (by omega)) ?_
  refine ev_callV kX12_221 co115 (qX12_says hn h4 (pC_nar (by omega))) dX12_saysNumber_23 rfl (by decide) (by decide) rfl ?_
  exact ev_vret dX12_saysNumber_26 rfl rfl (by rw [Nat.mod_eq_of_lt hv])
set_option maxRecDepth 4000 in
theorem qX12_saysNumber_2 {G : GX} {w : WS} {n v : Nat} (hn : w.1 115 11 = nI n) (h4 : n + 1 < 40) (hv : 10 ≤ v) (h9 : v < 100) : Big G 3 0 mX12_saysNumber [.ref 115, .int (nI v)] w (.inl none) (wSy (wSy w n (nI (48 + v / 10))) (n + 1) (nI (48 + v % 10))) := by
  refine big_of (by decide +kernel) (Nat.le_of_ble_eq_true rfl) ?_
  show Ev G 3 0 mX12_saysNumber 0 [some (.ref 115), some (.int (nI v))] [] w _
  refine ev_iload_n dX12_saysNumber_0 rfl ?_
  refine ev_bipush (v := nI 9) dX12_saysNumber_1 (by decide) ?_
  refine ev_icmp_le_f (tgt := 14) dX12_saysNumber_3 (by decide) (nI_ge (by omega) (by omega)) ?_
  refine ev_aload_n dX12_saysNumber_6 rfl ?_
  refine ev_iload_n dX12_saysNumber_7 rfl ?_
  refine ev_bipush (v := nI 10) dX12_saysNumber_8 (by decide) ?_
  refine ev_idiv dX12_saysNumber_10 (by decide) ?_
  refine ev_top (pk_div (by omega) (by decide) (by decide)) ?_
  refine ev_callV kX12_218 co115 (qX12_saysNumber_1 hn (by omega) (by omega)) dX12_saysNumber_11 rfl (by decide) (by decide) rfl ?_
  refine ev_aload_n dX12_saysNumber_14 rfl ?_
  refine ev_bipush (v := nI 48) dX12_saysNumber_15 (by decide) ?_
  refine ev_iload_n dX12_saysNumber_17 rfl ?_
  refine ev_bipush (v := nI 10) dX12_saysNumber_18 (by decide) ?_
  refine ev_irem dX12_saysNumber_20 (by decide) ?_
  refine ev_top (pk_rem (by omega) (by decide) (by decide)) ?_
  refine ev_iadd dX12_saysNumber_21 ?_
  first | refine ev_top (nI_add _ _) ?_ | skip
  refine ev_i2c dX12_saysNumber_22 (pC_i2c (by omega)) ?_
  refine ev_callV kX12_221 co115 (qX12_says (n := n + 1) rfl (by omega) (pC_nar (by omega))) dX12_saysNumber_23 rfl (by decide) (by decide) rfl ?_
  exact ev_vret dX12_saysNumber_26 rfl rfl rfl
theorem big_d {G : GX} {d d2 b : Nat} {M : MT} {args : List Value} {w w2 : WS} {o : OT} (hd : d = d2) (h : Big G d b M args w o w2) : Big G d2 b M args w o w2 := by rw [← hd]; exact h
set_option maxRecDepth 4000 in
theorem qX12_saysNumber_1b {G : GX} {w : WS} {n v : Nat} (hn : w.1 115 11 = nI n) (h4 : n < 40) (hv : v < 10) : Big G 3 0 mX12_saysNumber [.ref 115, .int (nI v)] w (.inl none) (wSy w n (nI (48 + v))) := by
  refine big_of (by decide +kernel) (Nat.le_of_ble_eq_true rfl) ?_
  show Ev G 3 0 mX12_saysNumber 0 [some (.ref 115), some (.int (nI v))] [] w _
  refine ev_iload_n dX12_saysNumber_0 rfl ?_
  refine ev_bipush (v := nI 9) dX12_saysNumber_1 (by decide) ?_
  refine ev_icmp_le_t (tgt := 14) dX12_saysNumber_3 (by decide) (nI_le (by omega) (by decide)) ?_
  refine ev_aload_n dX12_saysNumber_14 rfl ?_
  refine ev_bipush (v := nI 48) dX12_saysNumber_15 (by decide) ?_
  refine ev_iload_n dX12_saysNumber_17 rfl ?_
  refine ev_bipush (v := nI 10) dX12_saysNumber_18 (by decide) ?_
  refine ev_irem dX12_saysNumber_20 (by decide) ?_
  refine ev_top (pk_rem (by omega) (by decide) (by decide)) ?_
  refine ev_iadd dX12_saysNumber_21 ?_
  first | refine ev_top (nI_add _ _) ?_ | skip
  refine ev_i2c dX12_saysNumber_22 (pC_i2c (by omega)) ?_
  refine ev_callV kX12_221 co115 (qX12_says hn h4 (pC_nar (by omega))) dX12_saysNumber_23 rfl (by decide) (by decide) rfl ?_
  exact ev_vret dX12_saysNumber_26 rfl rfl (by rw [Nat.mod_eq_of_lt hv])
theorem qX12_saysNumber {G : GX} {w : WS} {n v : Nat} (hn : w.1 115 11 = nI n) (h4 : n + 1 < 40) (hv : v < 100) : Big G 3 0 mX12_saysNumber [.ref 115, .int (nI v)] w (.inl none) (wNy w n v) := by
  unfold wNy
  by_cases h : v < 10
  · rw [if_pos h]; exact qX12_saysNumber_1b hn (by omega) h
  · rw [if_neg h]; exact qX12_saysNumber_2 hn h4 (by omega) hv
set_option maxRecDepth 4000 in
theorem gX12_row_n {G : GX} {w : WS} {A : AS} (h : mX A w) {x : Int32} (hx : out_ 8 x) : ∃ o w2, (pMo (((1, 0), A)) w o w2) ∧ Big G 9 0 mX12_row [.ref 115, .int x] w o w2 := by
  refine bx_of (P := pMo (((1, 0), A)) w) (by decide +kernel) (Nat.le_of_ble_eq_true rfl) ?_
  show Ex G 9 0 mX12_row 0 [some (.ref 115), some (.int x), none, none] [] w _
  refine ex_s (fun _ => ev_aload_n dX12_row_0 rfl) ?_
  refine ex_s (fun _ => ev_iload_n dX12_row_1 rfl) ?_
  refine ex_s (fun _ => ev_iconst dX12_row_2 ic0) ?_
  refine ex_s (fun _ => ev_bipush (v := nI 7) dX12_row_3 (by decide)) ?_
  refine ex_s (fun _ => ev_callS kX12_63 (qX12_in_f (out_hi (by decide) hx)) dX12_row_5 rfl (by decide) (by decide) rfl) ?_
  refine ex_s (fun _ => ev_if_eq_t (tgt := 15) dX12_row_8 (by decide) rfl) ?_
  refine ex_s (fun _ => ev_iconst dX12_row_15 ic1) ?_
  refine ex_s (fun _ => ev_put fX12_43 dX12_row_16 rfl rfl (by decide) sh115 rfl) ?_
  refine ex_s (fun _ => ev_aload_n dX12_row_19 rfl) ?_
  refine ex_s (fun _ => ev_getI fX12_43 dX12_row_20 (by decide) sh115 rfl) ?_
  refine ex_s (fun _ => ev_top (y := nI 1) rfl) ?_
  refine ex_s (fun _ => ev_if_le_f (tgt := 28) dX12_row_23 (by decide) (by decide)) ?_
  refine ex_s (fun _ => ev_iconst dX12_row_26 ic0) ?_
  exact ⟨_, _, (by exact ⟨_, rfl, fun z => absurd (show (1 : Nat) = 0 from z) (by decide), rfl, mX_t (k := 1) h, frG_cs frG_rf (by decide) _⟩), ev_iret dX12_row_27 rfl rfl rfl rfl⟩
set_option maxRecDepth 4000 in
theorem gX12_row_y {G : GX} {w : WS} {A : AS} (h : mX A w) {y : Nat} (hy : y < 8) : ∃ o w2, (pMo (((0, nI 8), mkA (aS A) (aV A) (aH A) (aN A) (aT A) (rowL (aS A) y 8) (aK A) (aE A))) w o w2) ∧ Big G 9 0 mX12_row [.ref 115, .int (nI y)] w o w2 := by
  refine bx_of (P := pMo (((0, nI 8), mkA (aS A) (aV A) (aH A) (aN A) (aT A) (rowL (aS A) y 8) (aK A) (aE A))) w) (by decide +kernel) (Nat.le_of_ble_eq_true rfl) ?_
  show Ex G 9 0 mX12_row 0 [some (.ref 115), some (.int (nI y)), none, none] [] w _
  refine ex_s (fun _ => ev_aload_n dX12_row_0 rfl) ?_
  refine ex_s (fun _ => ev_iload_n dX12_row_1 rfl) ?_
  refine ex_s (fun _ => ev_iconst dX12_row_2 ic0) ?_
  refine ex_s (fun _ => ev_bipush (v := nI 7) dX12_row_3 (by decide)) ?_
  refine ex_s (fun _ => ev_callS kX12_63 (qX12_in_t (nI_le (Nat.zero_le _) (by omega)) (nI_le (by omega) (by decide))) dX12_row_5 rfl (by decide) (by decide) rfl) ?_
  refine ex_s (fun _ => ev_if_eq_f (tgt := 15) dX12_row_8 (by decide) (by decide)) ?_
  refine ex_s (fun _ => ev_iconst dX12_row_11 ic0) ?_
  refine ex_s (fun _ => ev_goto (tgt := 16) dX12_row_12 (by decide)) ?_
  refine ex_s (fun _ => ev_put fX12_43 dX12_row_16 rfl rfl (by decide) sh115 rfl) ?_
  refine ex_s (fun _ => ev_w (w' := wT w 0) rfl) ?_
  refine ex_s (fun _ => ev_aload_n dX12_row_19 rfl) ?_
  refine ex_s (fun _ => ev_getI fX12_43 dX12_row_20 (by decide) sh115 rfl) ?_
  refine ex_s (fun _ => ev_top (y := nI 0) rfl) ?_
  refine ex_s (fun _ => ev_if_le_t (tgt := 28) dX12_row_23 (by decide) (by decide)) ?_
  refine ex_s (fun _ => ev_aload_n dX12_row_28 rfl) ?_
  refine ex_s (fun _ => ev_iconst dX12_row_29 ic0) ?_
  refine ex_s (fun _ => ev_put fX12_215 dX12_row_30 rfl rfl (by decide) sh115 rfl) ?_
  refine ex_s (fun _ => ev_iconst dX12_row_33 ic0) ?_
  refine ex_s (fun _ => ev_ist2 dX12_row_34 (by decide) rfl) ?_
  have lp : ∀ (n9 j : Nat) (x : WS), j + n9 = 8 → lnM (rowL (aS A) y j) x → frY (wT w 0) x → Ex G 9 0 mX12_row 35 [some (.ref 115), some (.int (nI y)), some (.int (nI j)), none] [] x (pMo ((0, nI 8), mkA (aS A) (aV A) (aH A) (aN A) (aT A) (rowL (aS A) y 8) (aK A) (aE A)) w) := by
    intro n9
    induction n9 with
    | zero =>
      intro j x hi9 hl hf
      refine ex_s (fun _ => ev_iload_n dX12_row_35 rfl) ?_
      refine ex_s (fun _ => ev_bipush (v := nI 8) dX12_row_36 (by decide)) ?_
      refine ex_s (fun _ => ev_icmp_ge_t (tgt := 93) dX12_row_38 (by decide) (nI_le (by omega) (by omega))) ?_
      obtain rfl : j = 8 := by omega
      refine ex_s (fun _ => ev_aload_n dX12_row_93 rfl) ?_
      refine ex_s (fun _ => ev_getI fX12_215 dX12_row_94 (by decide) sh115 rfl) ?_
      refine ex_s (fun _ => ev_top (hl.1.trans (by rw [rowL_n]))) ?_
      exact ⟨_, _, (by exact ⟨_, rfl, fun _ => rfl, (hf.2 6 (by decide)).trans rfl, mX_l (mX_t (k := 0) h) hl hf, frG_tr (frG_cs frG_rf (by decide) _) (frG_mo hf.1 (by decide))⟩), ev_iret dX12_row_97 rfl rfl rfl rfl⟩
    | succ n9 ih =>
      intro j x hi9 hl hf
      refine ex_s (fun _ => ev_iload_n dX12_row_35 rfl) ?_
      refine ex_s (fun _ => ev_bipush (v := nI 8) dX12_row_36 (by decide)) ?_
      refine ex_s (fun _ => ev_icmp_ge_f (tgt := 93) dX12_row_38 (by decide) (nI_ge (by omega) (by decide))) ?_
      refine ex_s (fun _ => ev_bipush (v := nI 8) dX12_row_41 (by decide)) ?_
      refine ex_s (fun _ => ev_iload_n dX12_row_43 rfl) ?_
      refine ex_s (fun _ => ev_imul dX12_row_44) ?_
      first | refine ex_s (fun _ => ev_top (pk_mul _ _)) ?_ | skip
      refine ex_s (fun _ => ev_iload_n dX12_row_45 rfl) ?_
      refine ex_s (fun _ => ev_iadd dX12_row_46) ?_
      first | refine ex_s (fun _ => ev_top (nI_add _ _)) ?_ | skip
      refine ex_s (fun _ => ev_ist3 dX12_row_47 (by decide) rfl) ?_
      refine ex_s (fun _ => ev_aload_n dX12_row_48 rfl) ?_
      refine ex_s (fun _ => ev_aload_n dX12_row_49 rfl) ?_
      refine ex_s (fun _ => ev_iload_n dX12_row_50 rfl) ?_
      have hSx := mRy (mT (k := 0) h.1) hf
      refine ex_s (fun _ => ev_callV kX12_67 co115 (qX12_at hSx (by omega)) dX12_row_51 rfl (by decide) (by decide) rfl) ?_
      refine ex_bp (fun _ => ev_if_ge (tgt := 62) dX12_row_54 (by decide)) (fun hc54 => ?_) (fun hc54 => ?_)
      · have e54 : ¬ sO (aS A) (8 * y + j) = -1 := fun z => absurd ((sO_lt h.1.2 (by omega)).mpr z) (Int32.not_lt.mpr hc54)
        obtain ⟨a, ha, hoa, hon⟩ := ow_ h.1.2 (by omega) e54
        refine ex_s (fun _ => ev_aload_n dX12_row_62 rfl) ?_
        refine ex_s (fun _ => ev_iload_n dX12_row_63 rfl) ?_
        refine ex_s (fun _ => ev_callV kX12_71 co115 (qX12_dragonOn hSx (by omega)) dX12_row_64 rfl (by decide) (by decide) rfl) ?_
        have ob : ∀ k, dOn (aS A) (8 * y + j) = some k → k < 2 ^ 31 := fun k hk => by have := (dOn_lt hk).1; have := h.1.2.2.2.1.1; omega
        refine ex_bp (fun _ => ev_if_lt (tgt := 75) dX12_row_67 (by decide)) (fun hc67 => ?_) (fun hc67 => ?_)
        · have e67 : ¬ (dOn (aS A) (8 * y + j)).isSome = true := by rw [(oI_lt ob).mp hc67]; decide
          refine ex_s (fun _ => ev_bipush (v := nI 97) dX12_row_75 (by decide)) ?_
          refine ex_s (fun _ => ev_aload_n dX12_row_77 rfl) ?_
          refine ex_s (fun _ => ev_iload_n dX12_row_78 rfl) ?_
          refine ex_s (fun _ => ev_callV kX12_67 co115 (qX12_at hSx (by omega)) dX12_row_79 rfl (by decide) (by decide) rfl) ?_
          rw [hoa]
          refine ex_s (fun _ => ev_iadd dX12_row_82) ?_
          first | refine ex_s (fun _ => ev_top (nI_add _ _)) ?_ | skip
          refine ex_s (fun _ => ev_i2c dX12_row_83 (pC_i2c (by omega))) ?_
          have hsg := sgC_lt h.1.2 (c := 8 * y + j) (by omega)
          refine ex_s (fun _ => ev_top (y := nI (sgC (aS A) (8 * y + j))) (by unfold sgC; rw [if_neg e54, if_neg e67, hon])) ?_
          refine ex_s (fun _ => ev_callV kX12_221 co115 (qX12_says (n := j) (hl.1.trans (by rw [rowL_n])) (by omega) (pC_nar (by omega))) dX12_row_84 rfl (by decide) (by decide) rfl) ?_
          refine ex_s (fun _ => ev_iinc2 dX12_row_87 (nI_inc _) (by decide) rfl) ?_
          refine ex_s (fun _ => ev_goto (tgt := 35) dX12_row_90 (by decide)) ?_
          refine ex_s (fun _ => ev_fg3) ?_
          have q := lnM_s hl (by rw [rowL_n]; omega) hsg
          rw [rowL_n, ← rowL_s] at q
          exact ih (j + 1) _ (by omega) q (frY_tr hf frY_s)
        · have e67 : (dOn (aS A) (8 * y + j)).isSome = true := by
            cases e : dOn (aS A) (8 * y + j) with
            | none => exact absurd ((oI_lt ob).mpr e) hc67
            | some y => rfl
          refine ex_s (fun _ => ev_bipush (v := nI 65) dX12_row_70 (by decide)) ?_
          refine ex_s (fun _ => ev_goto (tgt := 77) dX12_row_72 (by decide)) ?_
          refine ex_s (fun _ => ev_aload_n dX12_row_77 rfl) ?_
          refine ex_s (fun _ => ev_iload_n dX12_row_78 rfl) ?_
          refine ex_s (fun _ => ev_callV kX12_67 co115 (qX12_at hSx (by omega)) dX12_row_79 rfl (by decide) (by decide) rfl) ?_
          rw [hoa]
          refine ex_s (fun _ => ev_iadd dX12_row_82) ?_
          first | refine ex_s (fun _ => ev_top (nI_add _ _)) ?_ | skip
          refine ex_s (fun _ => ev_i2c dX12_row_83 (pC_i2c (by omega))) ?_
          have hsg := sgC_lt h.1.2 (c := 8 * y + j) (by omega)
          refine ex_s (fun _ => ev_top (y := nI (sgC (aS A) (8 * y + j))) (by unfold sgC; rw [if_neg e54, if_pos e67, hon])) ?_
          refine ex_s (fun _ => ev_callV kX12_221 co115 (qX12_says (n := j) (hl.1.trans (by rw [rowL_n])) (by omega) (pC_nar (by omega))) dX12_row_84 rfl (by decide) (by decide) rfl) ?_
          refine ex_s (fun _ => ev_iinc2 dX12_row_87 (nI_inc _) (by decide) rfl) ?_
          refine ex_s (fun _ => ev_goto (tgt := 35) dX12_row_90 (by decide)) ?_
          refine ex_s (fun _ => ev_fg3) ?_
          have q := lnM_s hl (by rw [rowL_n]; omega) hsg
          rw [rowL_n, ← rowL_s] at q
          exact ih (j + 1) _ (by omega) q (frY_tr hf frY_s)
      · have e54 : sO (aS A) (8 * y + j) = -1 := (sO_lt h.1.2 (by omega)).mp (Int32.not_le.mp hc54)
        refine ex_s (fun _ => ev_bipush (v := nI 46) dX12_row_57 (by decide)) ?_
        refine ex_s (fun _ => ev_goto (tgt := 84) dX12_row_59 (by decide)) ?_
        have hsg := sgC_lt h.1.2 (c := 8 * y + j) (by omega)
        refine ex_s (fun _ => ev_top (y := nI (sgC (aS A) (8 * y + j))) (by unfold sgC; rw [if_pos e54])) ?_
        refine ex_s (fun _ => ev_callV kX12_221 co115 (qX12_says (n := j) (hl.1.trans (by rw [rowL_n])) (by omega) (pC_nar (by omega))) dX12_row_84 rfl (by decide) (by decide) rfl) ?_
        refine ex_s (fun _ => ev_iinc2 dX12_row_87 (nI_inc _) (by decide) rfl) ?_
        refine ex_s (fun _ => ev_goto (tgt := 35) dX12_row_90 (by decide)) ?_
        refine ex_s (fun _ => ev_fg3) ?_
        have q := lnM_s hl (by rw [rowL_n]; omega) hsg
        rw [rowL_n, ← rowL_s] at q
        exact ih (j + 1) _ (by omega) q (frY_tr hf frY_s)
  exact lp 8 0 _ rfl lnM_0 frY_0
theorem gX12_row {G : GX} {w : WS} {A : AS} (h : mX A w) (x : Int32) : ∃ o w2, pMo (spRow A x) w o w2 ∧ Big G 9 0 mX12_row [.ref 115, .int x] w o w2 := by
  unfold spRow
  rcases ixN_or 8 (by decide) x with ⟨h1, e1⟩ | ⟨i, h1, rfl, e1⟩
  · rw [e1]; exact gX12_row_n h h1
  · rw [e1]; exact gX12_row_y h h1
set_option maxRecDepth 4000 in
theorem gX12_tell_n {G : GX} {w : WS} {A : AS} (h : mX A w) {x : Int32} (hx : out_ (nR (aS A)) x) : ∃ o w2, (pMo (((1, 0), A)) w o w2) ∧ Big G 9 0 mX12_tell [.ref 115, .int x] w o w2 := by
  refine bx_of (P := pMo (((1, 0), A)) w) (by decide +kernel) (Nat.le_of_ble_eq_true rfl) ?_
  show Ex G 9 0 mX12_tell 0 [some (.ref 115), some (.int x), none, none] [] w _
  refine ex_s (fun _ => ev_aload_n dX12_tell_0 rfl) ?_
  refine ex_s (fun _ => ev_aload_n dX12_tell_1 rfl) ?_
  refine ex_s (fun _ => ev_iload_n dX12_tell_2 rfl) ?_
  refine ex_s (fun _ => ev_callV kX12_141 co115 (qX12_isRiver_n h.1 hx) dX12_tell_3 rfl (by decide) (by decide) rfl) ?_
  refine ex_s (fun _ => ev_if_eq_t (tgt := 13) dX12_tell_6 (by decide) rfl) ?_
  refine ex_s (fun _ => ev_iconst dX12_tell_13 ic1) ?_
  refine ex_s (fun _ => ev_put fX12_43 dX12_tell_14 rfl rfl (by decide) sh115 rfl) ?_
  refine ex_s (fun _ => ev_aload_n dX12_tell_17 rfl) ?_
  refine ex_s (fun _ => ev_getI fX12_43 dX12_tell_18 (by decide) sh115 rfl) ?_
  refine ex_s (fun _ => ev_top (y := nI 1) rfl) ?_
  refine ex_s (fun _ => ev_if_le_f (tgt := 26) dX12_tell_21 (by decide) (by decide)) ?_
  refine ex_s (fun _ => ev_iconst dX12_tell_24 ic0) ?_
  exact ⟨_, _, (by exact ⟨_, rfl, fun z => absurd (show (1 : Nat) = 0 from z) (by decide), rfl, mX_t (k := 1) h, frG_cs frG_rf (by decide) _⟩), ev_iret dX12_tell_25 rfl rfl rfl rfl⟩
set_option maxRecDepth 4000 in
theorem gX12_tell_y {G : GX} {w : WS} {A : AS} (h : mX A w) {i : Nat} (hi : i < nR (aS A)) : ∃ o w2, (pMo (((0, nI (telL (aS A) i).length), mkA (aS A) (aV A) (aH A) (aN A) (aT A) (telL (aS A) i) (aK A) (aE A))) w o w2) ∧ Big G 9 0 mX12_tell [.ref 115, .int (nI i)] w o w2 := by
  obtain ⟨mm, hm1, hm9, hm0⟩ := h.1.2.2.2.2
  obtain ⟨hr99, hr1, hr12, hk1, -⟩ := h.1.2.2.1.2 i hi
  have h5 := h.1.2.2.1.1
  have hte : wr (aS A) mm i = 0 → telL (aS A) i = telP (aS A) i (rN (aS A) i) ++ [61] ++ nuL (rT (aS A) i) := fun e => by
    unfold telL
    rw [hm0, oN_nI (by omega), if_pos e, List.append_nil]
  have htn : ¬ wr (aS A) mm i = 0 → telL (aS A) i = telP (aS A) i (rN (aS A) i) ++ [61] ++ nuL (rT (aS A) i) ++ [63] := fun e => by
    unfold telL
    rw [hm0, oN_nI (by omega), if_neg e]
  refine bx_of (P := pMo (((0, nI (telL (aS A) i).length), mkA (aS A) (aV A) (aH A) (aN A) (aT A) (telL (aS A) i) (aK A) (aE A))) w) (by decide +kernel) (Nat.le_of_ble_eq_true rfl) ?_
  show Ex G 9 0 mX12_tell 0 [some (.ref 115), some (.int (nI i)), none, none] [] w _
  refine ex_s (fun _ => ev_aload_n dX12_tell_0 rfl) ?_
  refine ex_s (fun _ => ev_aload_n dX12_tell_1 rfl) ?_
  refine ex_s (fun _ => ev_iload_n dX12_tell_2 rfl) ?_
  refine ex_s (fun _ => ev_callV kX12_141 co115 (qX12_isRiver_y h.1 hi) dX12_tell_3 rfl (by decide) (by decide) rfl) ?_
  refine ex_s (fun _ => ev_if_eq_f (tgt := 13) dX12_tell_6 (by decide) (by decide)) ?_
  refine ex_s (fun _ => ev_iconst dX12_tell_9 ic0) ?_
  refine ex_s (fun _ => ev_goto (tgt := 14) dX12_tell_10 (by decide)) ?_
  refine ex_s (fun _ => ev_put fX12_43 dX12_tell_14 rfl rfl (by decide) sh115 rfl) ?_
  refine ex_s (fun _ => ev_w (w' := wT w 0) rfl) ?_
  refine ex_s (fun _ => ev_aload_n dX12_tell_17 rfl) ?_
  refine ex_s (fun _ => ev_getI fX12_43 dX12_tell_18 (by decide) sh115 rfl) ?_
  refine ex_s (fun _ => ev_top (y := nI 0) rfl) ?_
  refine ex_s (fun _ => ev_if_le_t (tgt := 26) dX12_tell_21 (by decide) (by decide)) ?_
  refine ex_s (fun _ => ev_bipush (v := nI 83) dX12_tell_26 (by decide)) ?_
  refine ex_s (fun _ => ev_bipush (v := nI 15) dX12_tell_28 (by decide)) ?_
  refine ex_s (fun _ => ev_iload_n dX12_tell_30 rfl) ?_
  refine ex_s (fun _ => ev_imul dX12_tell_31) ?_
  first | refine ex_s (fun _ => ev_top (pk_mul _ _)) ?_ | skip
  refine ex_s (fun _ => ev_iadd dX12_tell_32) ?_
  first | refine ex_s (fun _ => ev_top (nI_add _ _)) ?_ | skip
  refine ex_s (fun _ => ev_ist2 dX12_tell_33 (by decide) rfl) ?_
  refine ex_s (fun _ => ev_aload_n dX12_tell_34 rfl) ?_
  refine ex_s (fun _ => ev_iconst dX12_tell_35 ic0) ?_
  refine ex_s (fun _ => ev_put fX12_215 dX12_tell_36 rfl rfl (by decide) sh115 rfl) ?_
  refine ex_s (fun _ => ev_w (w' := (cs_ (wT w 0) 115 (upd ((wT w 0).1 115) 11 (nI 0)))) rfl) ?_
  refine ex_s (fun _ => ev_aload_n dX12_tell_39 rfl) ?_
  refine ex_s (fun _ => ev_aload_n dX12_tell_40 rfl) ?_
  refine ex_s (fun _ => ev_getR fX12_9 dX12_tell_41 (by decide) sh115 rfl) ?_
  refine ex_s (fun _ => ev_iload_n dX12_tell_44 rfl) ?_
  refine ex_s (fun _ => ev_iaload dX12_tell_45 rfl (by omega) (by decide) sh116) ?_
  refine ex_s (fun _ => ev_top (h.1.1.2.2.2.2.2.1 i hi).1) ?_
  refine ex_s (fun _ => ev_callV kX12_218 co115 (qX12_saysNumber (n := 0) rfl (by omega) (by have := hk1 0 (by omega); omega)) dX12_tell_46 rfl (by decide) (by decide) rfl) ?_
  refine ex_s (fun _ => ev_aload_n dX12_tell_49 rfl) ?_
  refine ex_s (fun _ => ev_bipush (v := nI 58) dX12_tell_50 (by decide)) ?_
  have hl0 := lnM_n (lnM_0 (w := wT w 0)) (by decide) (v := rP (aS A) i 0) (by have := hk1 0 (by omega); omega)
  have hn0 := nuL_le (rP (aS A) i 0)
  have hl1 := lnM_s hl0 (by rw [List.nil_append]; omega) (v := 58) (by decide)
  refine ex_s (fun _ => ev_callV kX12_221 co115 (qX12_says hl0.1 (by rw [List.nil_append]; omega) (pC_nar (by decide))) dX12_tell_52 rfl (by decide) (by decide) rfl) ?_
  refine ex_s (fun _ => ev_iconst dX12_tell_55 ic0) ?_
  refine ex_s (fun _ => ev_ist3 dX12_tell_56 (by decide) rfl) ?_
  have lp : ∀ (n9 j : Nat) (x : WS), j + n9 = rN (aS A) i → lnM (telP (aS A) i j) x → frY (wT w 0) x → Ex G 9 0 mX12_tell 57 [some (.ref 115), some (.int (nI i)), some (.int (nI (83 + 15 * i))), some (.int (nI j))] [] x (pMo ((0, nI (telL (aS A) i).length), mkA (aS A) (aV A) (aH A) (aN A) (aT A) (telL (aS A) i) (aK A) (aE A)) w) := by
    intro n9
    induction n9 with
    | zero =>
      intro j x hi9 hl hf
      refine ex_s (fun _ => ev_iload_n dX12_tell_57 rfl) ?_
      refine ex_s (fun _ => ev_aload_n dX12_tell_58 rfl) ?_
      refine ex_s (fun _ => ev_iload_n dX12_tell_59 rfl) ?_
      have hSx := mRy (mT (k := 0) h.1) hf
      refine ex_s (fun _ => ev_callV kX12_156 co115 (qX12_steps hSx hi) dX12_tell_60 rfl (by decide) (by decide) rfl) ?_
      refine ex_s (fun _ => ev_icmp_ge_t (tgt := 91) dX12_tell_63 (by decide) (nI_le (by omega) (by omega))) ?_
      obtain rfl : j = rN (aS A) i := by omega
      refine ex_s (fun _ => ev_aload_n dX12_tell_91 rfl) ?_
      refine ex_s (fun _ => ev_bipush (v := nI 61) dX12_tell_92 (by decide)) ?_
      have hle := telP_le (aS A) i (rN (aS A) i)
      refine ex_s (fun _ => ev_callV kX12_221 co115 (qX12_says hl.1 (by omega) (pC_nar (by decide))) dX12_tell_94 rfl (by decide) (by decide) rfl) ?_
      refine ex_s (fun _ => ev_aload_n dX12_tell_97 rfl) ?_
      refine ex_s (fun _ => ev_aload_n dX12_tell_98 rfl) ?_
      refine ex_s (fun _ => ev_getR fX12_9 dX12_tell_99 (by decide) sh115 rfl) ?_
      refine ex_s (fun _ => ev_iload_n dX12_tell_102 rfl) ?_
      refine ex_s (fun _ => ev_iconst dX12_tell_103 ic1) ?_
      refine ex_s (fun _ => ev_iadd dX12_tell_104) ?_
      first | refine ex_s (fun _ => ev_top (nI_add _ _)) ?_ | skip
      have hf1 : frY (wT w 0) (wSy x (telP (aS A) i (rN (aS A) i)).length (nI 61)) := frY_tr hf frY_s
      have hS1 := mRy (mT (k := 0) h.1) hf1
      have hl1 := lnM_s hl (by omega) (v := 61) (by decide)
      have hlen1 : (telP (aS A) i (rN (aS A) i) ++ [61]).length = (telP (aS A) i (rN (aS A) i)).length + 1 := by rw [List.length_append]; rfl
      refine ex_s (fun _ => ev_iaload dX12_tell_105 rfl (by omega) (by decide) sh116) ?_
      refine ex_s (fun _ => ev_top (hS1.1.2.2.2.2.2.1 i hi).2.1) ?_
      refine ex_s (fun _ => ev_callV kX12_218 co115 (qX12_saysNumber (n := (telP (aS A) i (rN (aS A) i)).length + 1) rfl (by omega) (by omega)) dX12_tell_106 rfl (by decide) (by decide) rfl) ?_
      refine ex_s (fun _ => ev_aload_n dX12_tell_109 rfl) ?_
      refine ex_s (fun _ => ev_getR fX12_9 dX12_tell_110 (by decide) sh115 rfl) ?_
      refine ex_s (fun _ => ev_iload_n dX12_tell_113 rfl) ?_
      refine ex_s (fun _ => ev_iconst dX12_tell_114 ic1) ?_
      refine ex_s (fun _ => ev_iadd dX12_tell_115) ?_
      first | refine ex_s (fun _ => ev_top (nI_add _ _)) ?_ | skip
      have hf2 : frY (wT w 0) (wNy (wSy x (telP (aS A) i (rN (aS A) i)).length (nI 61)) ((telP (aS A) i (rN (aS A) i)).length + 1) (rT (aS A) i)) := frY_tr hf1 frY_n
      have hS2 := mRy (mT (k := 0) h.1) hf2
      have hl2 := lnM_n hl1 (by omega) (v := rT (aS A) i) (by omega)
      rw [hlen1] at hl2
      have hnl := nuL_le (rT (aS A) i)
      have hlen2 : (telP (aS A) i (rN (aS A) i) ++ [61] ++ nuL (rT (aS A) i)).length ≤ 20 := by rw [List.length_append, hlen1]; omega
      refine ex_s (fun _ => ev_iaload dX12_tell_116 rfl (by omega) (by decide) sh116) ?_
      refine ex_s (fun _ => ev_top (hS2.1.2.2.2.2.2.1 i hi).2.1) ?_
      refine ex_s (fun _ => ev_aload_n dX12_tell_117 rfl) ?_
      refine ex_s (fun _ => ev_iload_n dX12_tell_118 rfl) ?_
      refine ex_s (fun _ => ev_callV kX12_156 co115 (qX12_steps hS2 hi) dX12_tell_119 rfl (by decide) (by decide) rfl) ?_
      refine ex_s (fun _ => ev_aload_n dX12_tell_122 rfl) ?_
      refine ex_s (fun _ => ev_getR fX12_9 dX12_tell_123 (by decide) sh115 rfl) ?_
      refine ex_s (fun _ => ev_iconst dX12_tell_126 ic2) ?_
      refine ex_s (fun _ => ev_iaload dX12_tell_127 rfl (by omega) (by decide) sh116) ?_
      refine ex_s (fun _ => ev_top (hS2.1.2.2.1.1.trans hm0)) ?_
      refine ex_s (fun _ => ev_imul dX12_tell_128) ?_
      first | refine ex_s (fun _ => ev_top (pk_mul _ _)) ?_ | skip
      refine ex_bp (fun _ => ev_icmp_eq (tgt := 138) dX12_tell_129 (by decide)) (fun hc129 => ?_) (fun hc129 => ?_)
      · have e129 : wr (aS A) mm i = 0 := by
          have q := nI_inj (by omega) (by have : rN (aS A) i * mm ≤ 12 * 9 := Nat.mul_le_mul hr12 hm9; omega) hc129
          unfold wr
          omega
        refine ex_s (fun _ => ev_aload_n dX12_tell_138 rfl) ?_
        refine ex_s (fun _ => ev_getI fX12_215 dX12_tell_139 (by decide) sh115 rfl) ?_
        refine ex_s (fun _ => ev_top hl2.1) ?_
        exact ⟨_, _, (by rw [hte e129]; exact ⟨_, rfl, fun _ => rfl, (hf2.2 6 (by decide)).trans rfl, mX_l (mX_t (k := 0) h) hl2 hf2, frG_tr (frG_cs frG_rf (by decide) _) (frG_mo hf2.1 (by decide))⟩), ev_iret dX12_tell_142 rfl rfl rfl rfl⟩
      · have e129 : ¬ wr (aS A) mm i = 0 := fun q => hc129 (by unfold wr at q; congr 1; omega)
        have hl3 := lnM_s hl2 (by omega) (v := 63) (by decide)
        refine ex_s (fun _ => ev_aload_n dX12_tell_132 rfl) ?_
        refine ex_s (fun _ => ev_bipush (v := nI 63) dX12_tell_133 (by decide)) ?_
        refine ex_s (fun _ => ev_callV kX12_221 co115 (qX12_says hl2.1 (by omega) (pC_nar (by decide))) dX12_tell_135 rfl (by decide) (by decide) rfl) ?_
        refine ex_s (fun _ => ev_aload_n dX12_tell_138 rfl) ?_
        refine ex_s (fun _ => ev_getI fX12_215 dX12_tell_139 (by decide) sh115 rfl) ?_
        refine ex_s (fun _ => ev_top hl3.1) ?_
        exact ⟨_, _, (by rw [htn e129]; exact ⟨_, rfl, fun _ => rfl, ((frY_tr hf2 frY_s).2 6 (by decide)).trans rfl, mX_l (mX_t (k := 0) h) hl3 (frY_tr hf2 frY_s), frG_tr (frG_cs frG_rf (by decide) _) (frG_mo (frY_tr hf2 frY_s).1 (by decide))⟩), ev_iret dX12_tell_142 rfl rfl rfl rfl⟩
    | succ n9 ih =>
      intro j x hi9 hl hf
      refine ex_s (fun _ => ev_iload_n dX12_tell_57 rfl) ?_
      refine ex_s (fun _ => ev_aload_n dX12_tell_58 rfl) ?_
      refine ex_s (fun _ => ev_iload_n dX12_tell_59 rfl) ?_
      have hle := telP_le (aS A) i j
      have hSx := mRy (mT (k := 0) h.1) hf
      refine ex_s (fun _ => ev_callV kX12_156 co115 (qX12_steps hSx hi) dX12_tell_60 rfl (by decide) (by decide) rfl) ?_
      refine ex_s (fun _ => ev_icmp_ge_f (tgt := 91) dX12_tell_63 (by decide) (nI_ge (by omega) (by omega))) ?_
      refine ex_s (fun _ => ev_aload_n dX12_tell_66 rfl) ?_
      refine ex_s (fun _ => ev_ldc_nesw rfl dX12_tell_67) ?_
      refine ex_s (fun _ => ev_aload_n dX12_tell_69 rfl) ?_
      refine ex_s (fun _ => ev_getR fX12_9 dX12_tell_70 (by decide) sh115 rfl) ?_
      refine ex_s (fun _ => ev_iload_n dX12_tell_73 rfl) ?_
      refine ex_s (fun _ => ev_iconst dX12_tell_74 ic3) ?_
      refine ex_s (fun _ => ev_iadd dX12_tell_75) ?_
      first | refine ex_s (fun _ => ev_top (nI_add _ _)) ?_ | skip
      refine ex_s (fun _ => ev_iload_n dX12_tell_76 rfl) ?_
      refine ex_s (fun _ => ev_iadd dX12_tell_77) ?_
      first | refine ex_s (fun _ => ev_top (nI_add _ _)) ?_ | skip
      obtain ⟨hd4, hnb⟩ := stF_ok h.1.2 hi (show j < rN (aS A) i by omega)
      have hs128 : sgS (stF (aS A) i j) < 128 := by unfold sgS; (repeat' split) <;> decide
      refine ex_s (fun _ => ev_iaload dX12_tell_78 rfl (by omega) (by decide) sh116) ?_
      refine ex_s (fun _ => ev_top ((hSx.1.2.2.2.2.2.1 i hi).2.2.2 j (by omega))) ?_
      refine ex_s (fun _ => ev_callVs (i := 0) kX12_225 (by decide) rfl (qJ0_charAt hd4) dX12_tell_79 rfl (by decide) (by decide) rfl) ?_
      refine ex_s (fun _ => ev_callV kX12_221 co115 (qX12_says hl.1 (by omega) (pC_nar (by omega))) dX12_tell_82 rfl (by decide) (by decide) rfl) ?_
      refine ex_s (fun _ => ev_iinc3 dX12_tell_85 (nI_inc _) (by decide) rfl) ?_
      refine ex_s (fun _ => ev_goto (tgt := 57) dX12_tell_88 (by decide)) ?_
      have q := lnM_s hl (by omega) hs128
      rw [← telP_s] at q
      exact ih (j + 1) _ (by omega) q (frY_tr hf frY_s)
  refine lp (rN (aS A) i) 0 _ (Nat.zero_add _) ?_ (frY_tr (frY_tr frY_0 frY_n) frY_s)
  rw [show telP (aS A) i 0 = [] ++ nuL (rP (aS A) i 0) ++ [58] by unfold telP; simp]
  exact hl1
theorem gX12_tell {G : GX} {w : WS} {A : AS} (h : mX A w) (x : Int32) : ∃ o w2, pMo (spTell A x) w o w2 ∧ Big G 9 0 mX12_tell [.ref 115, .int x] w o w2 := by
  unfold spTell
  rcases ixN_or (nR (aS A)) (by have := h.1.2.2.1.1; omega) x with ⟨h1, e1⟩ | ⟨i, h1, rfl, e1⟩
  · rw [e1]; exact gX12_tell_n h h1
  · rw [e1]; exact gX12_tell_y h h1
set_option maxRecDepth 4000 in
theorem gX12_character_n {G : GX} {w : WS} {A : AS} (h : mX A w) {x : Int32} (hx : out_ (aL A).length x) : ∃ o w2, (pMo (((1, 0), A)) w o w2) ∧ Big G 9 0 mX12_character [.ref 115, .int x] w o w2 := by
  obtain ⟨hl1, hl2, hl3⟩ := h.2.2.2.2.1
  refine bx_of (P := pMo (((1, 0), A)) w) (by decide +kernel) (Nat.le_of_ble_eq_true rfl) ?_
  show Ex G 9 0 mX12_character 0 [some (.ref 115), some (.int x)] [] w _
  refine ex_s (fun _ => ev_aload_n dX12_character_0 rfl) ?_
  refine ex_s (fun _ => ev_iload_n dX12_character_1 rfl) ?_
  refine ex_s (fun _ => ev_iconst dX12_character_2 ic0) ?_
  refine ex_s (fun _ => ev_aload_n dX12_character_3 rfl) ?_
  refine ex_s (fun _ => ev_getI fX12_215 dX12_character_4 (by decide) sh115 rfl) ?_
  refine ex_s (fun _ => ev_top hl1) ?_
  refine ex_s (fun _ => ev_iconst dX12_character_7 ic1) ?_
  refine ex_s (fun _ => ev_isub dX12_character_8) ?_
  refine ex_s (fun _ => ev_top rfl) ?_
  refine ex_s (fun _ => ev_callS kX12_63 (qX12_in_f (out_m hx (by omega))) dX12_character_9 rfl (by decide) (by decide) rfl) ?_
  refine ex_s (fun _ => ev_if_eq_t (tgt := 19) dX12_character_12 (by decide) rfl) ?_
  refine ex_s (fun _ => ev_iconst dX12_character_19 ic1) ?_
  refine ex_s (fun _ => ev_put fX12_43 dX12_character_20 rfl rfl (by decide) sh115 rfl) ?_
  refine ex_s (fun _ => ev_aload_n dX12_character_23 rfl) ?_
  refine ex_s (fun _ => ev_getI fX12_43 dX12_character_24 (by decide) sh115 rfl) ?_
  refine ex_s (fun _ => ev_top (y := nI 1) rfl) ?_
  refine ex_s (fun _ => ev_if_le_f (tgt := 35) dX12_character_27 (by decide) (by decide)) ?_
  refine ex_s (fun _ => ev_bipush (v := nI 32) dX12_character_30 (by decide)) ?_
  refine ex_s (fun _ => ev_goto (tgt := 41) dX12_character_32 (by decide)) ?_
  exact ⟨_, _, (by exact ⟨_, rfl, fun z => absurd (show (1 : Nat) = 0 from z) (by decide), rfl, mX_t (k := 1) h, frG_cs frG_rf (by decide) _⟩), ev_iret dX12_character_41 rfl (by decide) rfl rfl⟩
set_option maxRecDepth 4000 in
theorem gX12_character_y {G : GX} {w : WS} {A : AS} (h : mX A w) {i : Nat} (hi : i < (aL A).length) : ∃ o w2, (pMo (((0, nI ((aL A).getD i 0)), A)) w o w2) ∧ Big G 9 0 mX12_character [.ref 115, .int (nI i)] w o w2 := by
  obtain ⟨hl1, hl2, hl3⟩ := h.2.2.2.2.1
  have hv := hl3 i ((aL A).getD i 0) (by rw [List.getD_eq_getElem?_getD, List.getElem?_eq_getElem hi]; rfl)
  refine bx_of (P := pMo (((0, nI ((aL A).getD i 0)), A)) w) (by decide +kernel) (Nat.le_of_ble_eq_true rfl) ?_
  show Ex G 9 0 mX12_character 0 [some (.ref 115), some (.int (nI i))] [] w _
  refine ex_s (fun _ => ev_aload_n dX12_character_0 rfl) ?_
  refine ex_s (fun _ => ev_iload_n dX12_character_1 rfl) ?_
  refine ex_s (fun _ => ev_iconst dX12_character_2 ic0) ?_
  refine ex_s (fun _ => ev_aload_n dX12_character_3 rfl) ?_
  refine ex_s (fun _ => ev_getI fX12_215 dX12_character_4 (by decide) sh115 rfl) ?_
  refine ex_s (fun _ => ev_top hl1) ?_
  refine ex_s (fun _ => ev_iconst dX12_character_7 ic1) ?_
  refine ex_s (fun _ => ev_isub dX12_character_8) ?_
  first | refine ex_s (fun _ => ev_top (pk_sub (by omega))) ?_ | skip
  refine ex_s (fun _ => ev_callS kX12_63 (qX12_in_t (nI_le (Nat.zero_le _) (by omega)) (nI_le (by omega) (by omega))) dX12_character_9 rfl (by decide) (by decide) rfl) ?_
  refine ex_s (fun _ => ev_if_eq_f (tgt := 19) dX12_character_12 (by decide) (by decide)) ?_
  refine ex_s (fun _ => ev_iconst dX12_character_15 ic0) ?_
  refine ex_s (fun _ => ev_goto (tgt := 20) dX12_character_16 (by decide)) ?_
  refine ex_s (fun _ => ev_put fX12_43 dX12_character_20 rfl rfl (by decide) sh115 rfl) ?_
  refine ex_s (fun _ => ev_w (w' := wT w 0) rfl) ?_
  refine ex_s (fun _ => ev_aload_n dX12_character_23 rfl) ?_
  refine ex_s (fun _ => ev_getI fX12_43 dX12_character_24 (by decide) sh115 rfl) ?_
  refine ex_s (fun _ => ev_top (y := nI 0) rfl) ?_
  refine ex_s (fun _ => ev_if_le_t (tgt := 35) dX12_character_27 (by decide) (by decide)) ?_
  refine ex_s (fun _ => ev_aload_n dX12_character_35 rfl) ?_
  refine ex_s (fun _ => ev_getR fX12_29 dX12_character_36 (by decide) sh115 rfl) ?_
  refine ex_s (fun _ => ev_iload_n dX12_character_39 rfl) ?_
  refine ex_s (fun _ => ev_caload dX12_character_40 rfl (by omega) (by decide) sh122) ?_
  refine ex_s (fun _ => ev_top hv.1) ?_
  exact ⟨_, _, (by exact ⟨_, rfl, fun _ => rfl, rfl, mX_t (k := 0) h, frG_cs frG_rf (by decide) _⟩), ev_iret dX12_character_41 rfl (pk_charN (by omega)).1 rfl rfl⟩
theorem gX12_character {G : GX} {w : WS} {A : AS} (h : mX A w) (x : Int32) : ∃ o w2, pMo (spChar A x) w o w2 ∧ Big G 9 0 mX12_character [.ref 115, .int x] w o w2 := by
  unfold spChar
  rcases ixN_or (aL A).length (by have := h.2.2.2.2.1.2.1; omega) x with ⟨h1, e1⟩ | ⟨i, h1, rfl, e1⟩
  · rw [e1]; exact gX12_character_n h h1
  · rw [e1]; exact gX12_character_y h h1
set_option maxRecDepth 4000 in
theorem gX12_meanWrong_n {G : GX} {w : WS} {S : ST} (hS : mR S w) (hn : nR S = 0) : Big G 5 0 mX12_meanWrong [.ref 115] w (.inl (some (.double 0))) (wT w 1) := by
  refine big_of (by decide +kernel) (Nat.le_of_ble_eq_true rfl) ?_
  have hS0 := hS
  obtain ⟨⟨q0, q1, ⟨m0, m1, m2, m3, m4⟩, qr, qc, qv, qd⟩, hk1, hk2, hk3, hk4⟩ := hS
  have h4 := hk2.1
  have h5 := hk3.1
  show Ev G 5 0 mX12_meanWrong 0 [some (.ref 115), none] [] w _
  refine ev_aload_n dX12_meanWrong_0 rfl ?_
  refine ev_getR fX12_9 dX12_meanWrong_1 (by decide) sh115 rfl ?_
  refine ev_iconst dX12_meanWrong_4 ic0 ?_
  refine ev_iaload dX12_meanWrong_5 rfl (by omega) (by decide) sh116 ?_
  refine ev_top (q0.trans (by rw [hn]) : _ = nI 0) ?_
  refine ev_ist1 dX12_meanWrong_6 (by decide) rfl ?_
  refine ev_aload_n dX12_meanWrong_7 rfl ?_
  refine ev_iload_n dX12_meanWrong_8 rfl ?_
  refine ev_if_ne_f (tgt := 16) dX12_meanWrong_9 (by decide) rfl ?_
  refine ev_iconst dX12_meanWrong_12 ic1 ?_
  refine ev_goto (tgt := 17) dX12_meanWrong_13 (by decide) ?_
  refine ev_put fX12_43 dX12_meanWrong_17 rfl rfl (by decide) sh115 rfl ?_
  refine ev_aload_n dX12_meanWrong_20 rfl ?_
  refine ev_getI fX12_43 dX12_meanWrong_21 (by decide) sh115 rfl ?_
  refine ev_top (y := nI 1) rfl ?_
  refine ev_if_le_f (tgt := 31) dX12_meanWrong_24 (by decide) (by decide) ?_
  refine ev_dconst0 dX12_meanWrong_27 ?_
  refine ev_goto (tgt := 45) dX12_meanWrong_28 (by decide) ?_
  exact ev_dret dX12_meanWrong_45 rfl rfl rfl
set_option maxRecDepth 4000 in
theorem gX12_meanWrong_y {G : GX} {w : WS} {S : ST} (hS : mR S w) (hn : nR S ≠ 0) : Big G 5 0 mX12_meanWrong [.ref 115] w (.inl (some (.double (mwD S)))) (wT w 0) := by
  refine big_of (by decide +kernel) (Nat.le_of_ble_eq_true rfl) ?_
  have hS0 := hS
  obtain ⟨⟨q0, q1, ⟨m0, m1, m2, m3, m4⟩, qr, qc, qv, qd⟩, hk1, hk2, hk3, hk4⟩ := hS
  have h4 := hk2.1
  have h5 := hk3.1
  obtain ⟨mm, hm1, hm9, hm0⟩ := hk4
  show Ev G 5 0 mX12_meanWrong 0 [some (.ref 115), none] [] w _
  refine ev_aload_n dX12_meanWrong_0 rfl ?_
  refine ev_getR fX12_9 dX12_meanWrong_1 (by decide) sh115 rfl ?_
  refine ev_iconst dX12_meanWrong_4 ic0 ?_
  refine ev_iaload dX12_meanWrong_5 rfl (by omega) (by decide) sh116 ?_
  refine ev_top q0 ?_
  refine ev_ist1 dX12_meanWrong_6 (by decide) rfl ?_
  refine ev_aload_n dX12_meanWrong_7 rfl ?_
  refine ev_iload_n dX12_meanWrong_8 rfl ?_
  refine ev_if_ne_t (tgt := 16) dX12_meanWrong_9 (by decide) (fun q => hn (nI_inj (by omega) (by decide) q)) ?_
  refine ev_iconst dX12_meanWrong_16 ic0 ?_
  refine ev_put fX12_43 dX12_meanWrong_17 rfl rfl (by decide) sh115 rfl ?_
  refine ev_w (w' := wT w 0) rfl ?_
  refine ev_aload_n dX12_meanWrong_20 rfl ?_
  refine ev_getI fX12_43 dX12_meanWrong_21 (by decide) sh115 rfl ?_
  refine ev_top (y := nI 0) rfl ?_
  refine ev_if_le_t (tgt := 31) dX12_meanWrong_24 (by decide) (by decide) ?_
  refine ev_aload_n dX12_meanWrong_31 rfl ?_
  refine ev_aload_n dX12_meanWrong_32 rfl ?_
  refine ev_getR fX12_9 dX12_meanWrong_33 (by decide) sh115 rfl ?_
  refine ev_iconst dX12_meanWrong_36 ic2 ?_
  refine ev_iaload dX12_meanWrong_37 rfl (by omega) (by decide) sh116 ?_
  refine ev_top (m0.trans hm0) ?_
  refine ev_callV kX12_204 co115 (qX12_wrongBy (mT (k := 0) hS0) hm9) dX12_meanWrong_38 rfl (by decide) (by decide) rfl ?_
  refine ev_top (y := qWr S) (by unfold qWr; rw [hm0, oN_nI (by omega)]) ?_
  refine ev_i2d dX12_meanWrong_41 ?_
  refine ev_iload_n dX12_meanWrong_42 rfl ?_
  refine ev_i2d dX12_meanWrong_43 ?_
  refine ev_ddiv dX12_meanWrong_44 (mw_ok hS0.2 hn) ?_
  exact ev_dret dX12_meanWrong_45 rfl rfl rfl
set_option maxRecDepth 4000 in
theorem gX12_ownedShare {G : GX} {w : WS} {S : ST} (hS : mR S w) : Big G 5 0 mX12_ownedShare [.ref 115] w (.inl (some (.float (osF S)))) (wT w 0) := by
  refine big_of (by decide +kernel) (Nat.le_of_ble_eq_true rfl) ?_
  show Ev G 5 0 mX12_ownedShare 0 [some (.ref 115)] [] w _
  refine ev_aload_n dX12_ownedShare_0 rfl ?_
  refine ev_iconst dX12_ownedShare_1 ic0 ?_
  refine ev_put fX12_43 dX12_ownedShare_2 rfl rfl (by decide) sh115 rfl ?_
  refine ev_w (w' := wT w 0) rfl ?_
  refine ev_bipush (v := nI 64) dX12_ownedShare_5 (by decide) ?_
  refine ev_aload_n dX12_ownedShare_7 rfl ?_
  refine ev_iconst dX12_ownedShare_8 icm1 ?_
  refine ev_callV kX12_110 co115 (qX12_cellsOf (mT (k := 0) hS)) dX12_ownedShare_9 rfl (by decide) (by decide) rfl ?_
  refine ev_isub dX12_ownedShare_12 ?_
  refine ev_top (y := nI (64 - cO S (-1))) (pk_sub (by have := ct_le (fun c => sO S c == (-1 : Int32)) 64; unfold cO; omega)) ?_
  refine ev_i2f dX12_ownedShare_13 ?_
  refine ev_ldcf (v := 1115684864) dX12_ownedShare_14 gf229 ?_
  refine ev_fdiv dX12_ownedShare_16 (ff_ok2 ⟨64 - cO S (-1), by omega⟩) ?_
  exact ev_fret dX12_ownedShare_17 rfl rfl rfl
set_option maxRecDepth 4000 in
theorem gX12_account_n {G : GX} {w : WS} {A : AS} (h : mX A w) {x : Int32} (hx : out_ 11 x) : ∃ o w2, (pMo (((1, 0), A)) w o w2) ∧ Big G 9 0 mX12_account [.ref 115, .int x] w o w2 := by
  refine bx_of (P := pMo (((1, 0), A)) w) (by decide +kernel) (Nat.le_of_ble_eq_true rfl) ?_
  show Ex G 9 0 mX12_account 0 [some (.ref 115), some (.int x)] [] w _
  refine ex_s (fun _ => ev_aload_n dX12_account_0 rfl) ?_
  refine ex_s (fun _ => ev_iload_n dX12_account_1 rfl) ?_
  refine ex_s (fun _ => ev_iconst dX12_account_2 ic0) ?_
  refine ex_s (fun _ => ev_bipush (v := nI 10) dX12_account_3 (by decide)) ?_
  refine ex_s (fun _ => ev_callS kX12_63 (qX12_in_f (out_hi (by decide) hx)) dX12_account_5 rfl (by decide) (by decide) rfl) ?_
  refine ex_s (fun _ => ev_if_eq_t (tgt := 15) dX12_account_8 (by decide) rfl) ?_
  refine ex_s (fun _ => ev_iconst dX12_account_15 ic1) ?_
  refine ex_s (fun _ => ev_put fX12_43 dX12_account_16 rfl rfl (by decide) sh115 rfl) ?_
  refine ex_s (fun _ => ev_aload_n dX12_account_19 rfl) ?_
  refine ex_s (fun _ => ev_getI fX12_43 dX12_account_20 (by decide) sh115 rfl) ?_
  refine ex_s (fun _ => ev_top (y := nI 1) rfl) ?_
  refine ex_s (fun _ => ev_if_le_f (tgt := 28) dX12_account_23 (by decide) (by decide)) ?_
  refine ex_s (fun _ => ev_iconst dX12_account_26 ic0) ?_
  exact ⟨_, _, (by exact ⟨_, rfl, fun z => absurd (show (1 : Nat) = 0 from z) (by decide), rfl, mX_t (k := 1) h, frG_cs frG_rf (by decide) _⟩), ev_iret dX12_account_27 rfl rfl rfl rfl⟩
set_option maxRecDepth 4000 in
theorem gX12_account_0 {G : GX} {w : WS} {A : AS} (h : mX A w) : ∃ o w2, (pMo (((0, acV A 0), A)) w o w2) ∧ Big G 9 0 mX12_account [.ref 115, .int (nI 0)] w o w2 := by
  have hT := mT (k := 0) h.1
  obtain ⟨⟨q0, q1, ⟨m0, m1, m2, m3, m4⟩, qr, qc, qv, qd⟩, hk1, hk2, hk3, hk4⟩ := id hT
  refine bx_of (P := pMo (((0, acV A 0), A)) w) (by decide +kernel) (Nat.le_of_ble_eq_true rfl) ?_
  show Ex G 9 0 mX12_account 0 [some (.ref 115), some (.int (nI 0))] [] w _
  refine ex_s (fun _ => ev_aload_n dX12_account_0 rfl) ?_
  refine ex_s (fun _ => ev_iload_n dX12_account_1 rfl) ?_
  refine ex_s (fun _ => ev_iconst dX12_account_2 ic0) ?_
  refine ex_s (fun _ => ev_bipush (v := nI 10) dX12_account_3 (by decide)) ?_
  refine ex_s (fun _ => ev_callS kX12_63 (qX12_in_t (by decide) (by decide)) dX12_account_5 rfl (by decide) (by decide) rfl) ?_
  refine ex_s (fun _ => ev_if_eq_f (tgt := 15) dX12_account_8 (by decide) (by decide)) ?_
  refine ex_s (fun _ => ev_iconst dX12_account_11 ic0) ?_
  refine ex_s (fun _ => ev_goto (tgt := 16) dX12_account_12 (by decide)) ?_
  refine ex_s (fun _ => ev_put fX12_43 dX12_account_16 rfl rfl (by decide) sh115 rfl) ?_
  refine ex_s (fun _ => ev_w (w' := wT w 0) rfl) ?_
  refine ex_s (fun _ => ev_aload_n dX12_account_19 rfl) ?_
  refine ex_s (fun _ => ev_getI fX12_43 dX12_account_20 (by decide) sh115 rfl) ?_
  refine ex_s (fun _ => ev_top (y := nI 0) rfl) ?_
  refine ex_s (fun _ => ev_if_le_t (tgt := 28) dX12_account_23 (by decide) (by decide)) ?_
  refine ex_s (fun _ => ev_iload_n dX12_account_28 rfl) ?_
  refine ex_s (fun _ => ev_tableIn (tgt := 88) (off := 59) dX12_account_29 (by decide) (by decide) (by decide +kernel) (by decide)) ?_
  refine ex_s (fun _ => ev_bipush (v := nI 64) dX12_account_88 (by decide)) ?_
  refine ex_s (fun _ => ev_aload_n dX12_account_90 rfl) ?_
  refine ex_s (fun _ => ev_iconst dX12_account_91 icm1) ?_
  refine ex_s (fun _ => ev_callV kX12_110 co115 (qX12_cellsOf hT) dX12_account_92 rfl (by decide) (by decide) rfl) ?_
  refine ex_s (fun _ => ev_isub dX12_account_95) ?_
  refine ex_s (fun _ => ev_top (y := nI (64 - cO (aS A) (-1))) (pk_sub (by have := ct_le (fun c => sO (aS A) c == (-1 : Int32)) 64; unfold cO; omega))) ?_
  exact ⟨_, _, (by exact ⟨_, rfl, fun _ => rfl, rfl, mX_t (k := 0) h, frG_cs frG_rf (by decide) _⟩), ev_iret dX12_account_96 rfl rfl rfl rfl⟩
set_option maxRecDepth 4000 in
theorem gX12_account_1 {G : GX} {w : WS} {A : AS} (h : mX A w) : ∃ o w2, (pMo (((0, acV A 1), A)) w o w2) ∧ Big G 9 0 mX12_account [.ref 115, .int (nI 1)] w o w2 := by
  have hT := mT (k := 0) h.1
  obtain ⟨⟨q0, q1, ⟨m0, m1, m2, m3, m4⟩, qr, qc, qv, qd⟩, hk1, hk2, hk3, hk4⟩ := id hT
  refine bx_of (P := pMo (((0, acV A 1), A)) w) (by decide +kernel) (Nat.le_of_ble_eq_true rfl) ?_
  show Ex G 9 0 mX12_account 0 [some (.ref 115), some (.int (nI 1))] [] w _
  refine ex_s (fun _ => ev_aload_n dX12_account_0 rfl) ?_
  refine ex_s (fun _ => ev_iload_n dX12_account_1 rfl) ?_
  refine ex_s (fun _ => ev_iconst dX12_account_2 ic0) ?_
  refine ex_s (fun _ => ev_bipush (v := nI 10) dX12_account_3 (by decide)) ?_
  refine ex_s (fun _ => ev_callS kX12_63 (qX12_in_t (by decide) (by decide)) dX12_account_5 rfl (by decide) (by decide) rfl) ?_
  refine ex_s (fun _ => ev_if_eq_f (tgt := 15) dX12_account_8 (by decide) (by decide)) ?_
  refine ex_s (fun _ => ev_iconst dX12_account_11 ic0) ?_
  refine ex_s (fun _ => ev_goto (tgt := 16) dX12_account_12 (by decide)) ?_
  refine ex_s (fun _ => ev_put fX12_43 dX12_account_16 rfl rfl (by decide) sh115 rfl) ?_
  refine ex_s (fun _ => ev_w (w' := wT w 0) rfl) ?_
  refine ex_s (fun _ => ev_aload_n dX12_account_19 rfl) ?_
  refine ex_s (fun _ => ev_getI fX12_43 dX12_account_20 (by decide) sh115 rfl) ?_
  refine ex_s (fun _ => ev_top (y := nI 0) rfl) ?_
  refine ex_s (fun _ => ev_if_le_t (tgt := 28) dX12_account_23 (by decide) (by decide)) ?_
  refine ex_s (fun _ => ev_iload_n dX12_account_28 rfl) ?_
  refine ex_s (fun _ => ev_tableIn (tgt := 97) (off := 68) dX12_account_29 (by decide) (by decide) (by decide +kernel) (by decide)) ?_
  refine ex_s (fun _ => ev_aload_n dX12_account_97 rfl) ?_
  refine ex_s (fun _ => ev_getR fX12_9 dX12_account_98 (by decide) sh115 rfl) ?_
  refine ex_s (fun _ => ev_iconst dX12_account_101 ic0) ?_
  refine ex_s (fun _ => ev_iaload dX12_account_102 rfl (by omega) (by decide) sh116) ?_
  refine ex_s (fun _ => ev_top q0) ?_
  exact ⟨_, _, (by exact ⟨_, rfl, fun _ => rfl, rfl, mX_t (k := 0) h, frG_cs frG_rf (by decide) _⟩), ev_iret dX12_account_103 rfl rfl rfl rfl⟩
set_option maxRecDepth 4000 in
theorem gX12_account_2 {G : GX} {w : WS} {A : AS} (h : mX A w) : ∃ o w2, (pMo (((0, acV A 2), A)) w o w2) ∧ Big G 9 0 mX12_account [.ref 115, .int (nI 2)] w o w2 := by
  have hT := mT (k := 0) h.1
  obtain ⟨⟨q0, q1, ⟨m0, m1, m2, m3, m4⟩, qr, qc, qv, qd⟩, hk1, hk2, hk3, hk4⟩ := id hT
  refine bx_of (P := pMo (((0, acV A 2), A)) w) (by decide +kernel) (Nat.le_of_ble_eq_true rfl) ?_
  show Ex G 9 0 mX12_account 0 [some (.ref 115), some (.int (nI 2))] [] w _
  refine ex_s (fun _ => ev_aload_n dX12_account_0 rfl) ?_
  refine ex_s (fun _ => ev_iload_n dX12_account_1 rfl) ?_
  refine ex_s (fun _ => ev_iconst dX12_account_2 ic0) ?_
  refine ex_s (fun _ => ev_bipush (v := nI 10) dX12_account_3 (by decide)) ?_
  refine ex_s (fun _ => ev_callS kX12_63 (qX12_in_t (by decide) (by decide)) dX12_account_5 rfl (by decide) (by decide) rfl) ?_
  refine ex_s (fun _ => ev_if_eq_f (tgt := 15) dX12_account_8 (by decide) (by decide)) ?_
  refine ex_s (fun _ => ev_iconst dX12_account_11 ic0) ?_
  refine ex_s (fun _ => ev_goto (tgt := 16) dX12_account_12 (by decide)) ?_
  refine ex_s (fun _ => ev_put fX12_43 dX12_account_16 rfl rfl (by decide) sh115 rfl) ?_
  refine ex_s (fun _ => ev_w (w' := wT w 0) rfl) ?_
  refine ex_s (fun _ => ev_aload_n dX12_account_19 rfl) ?_
  refine ex_s (fun _ => ev_getI fX12_43 dX12_account_20 (by decide) sh115 rfl) ?_
  refine ex_s (fun _ => ev_top (y := nI 0) rfl) ?_
  refine ex_s (fun _ => ev_if_le_t (tgt := 28) dX12_account_23 (by decide) (by decide)) ?_
  refine ex_s (fun _ => ev_iload_n dX12_account_28 rfl) ?_
  refine ex_s (fun _ => ev_tableIn (tgt := 104) (off := 75) dX12_account_29 (by decide) (by decide) (by decide +kernel) (by decide)) ?_
  refine ex_s (fun _ => ev_aload_n dX12_account_104 rfl) ?_
  refine ex_s (fun _ => ev_getR fX12_9 dX12_account_105 (by decide) sh115 rfl) ?_
  refine ex_s (fun _ => ev_iconst dX12_account_108 ic1) ?_
  refine ex_s (fun _ => ev_iaload dX12_account_109 rfl (by omega) (by decide) sh116) ?_
  refine ex_s (fun _ => ev_top q1) ?_
  exact ⟨_, _, (by exact ⟨_, rfl, fun _ => rfl, rfl, mX_t (k := 0) h, frG_cs frG_rf (by decide) _⟩), ev_iret dX12_account_110 rfl rfl rfl rfl⟩
set_option maxRecDepth 4000 in
theorem gX12_account_3 {G : GX} {w : WS} {A : AS} (h : mX A w) : ∃ o w2, (pMo (((0, acV A 3), A)) w o w2) ∧ Big G 9 0 mX12_account [.ref 115, .int (nI 3)] w o w2 := by
  have hT := mT (k := 0) h.1
  obtain ⟨⟨q0, q1, ⟨m0, m1, m2, m3, m4⟩, qr, qc, qv, qd⟩, hk1, hk2, hk3, hk4⟩ := id hT
  refine bx_of (P := pMo (((0, acV A 3), A)) w) (by decide +kernel) (Nat.le_of_ble_eq_true rfl) ?_
  show Ex G 9 0 mX12_account 0 [some (.ref 115), some (.int (nI 3))] [] w _
  refine ex_s (fun _ => ev_aload_n dX12_account_0 rfl) ?_
  refine ex_s (fun _ => ev_iload_n dX12_account_1 rfl) ?_
  refine ex_s (fun _ => ev_iconst dX12_account_2 ic0) ?_
  refine ex_s (fun _ => ev_bipush (v := nI 10) dX12_account_3 (by decide)) ?_
  refine ex_s (fun _ => ev_callS kX12_63 (qX12_in_t (by decide) (by decide)) dX12_account_5 rfl (by decide) (by decide) rfl) ?_
  refine ex_s (fun _ => ev_if_eq_f (tgt := 15) dX12_account_8 (by decide) (by decide)) ?_
  refine ex_s (fun _ => ev_iconst dX12_account_11 ic0) ?_
  refine ex_s (fun _ => ev_goto (tgt := 16) dX12_account_12 (by decide)) ?_
  refine ex_s (fun _ => ev_put fX12_43 dX12_account_16 rfl rfl (by decide) sh115 rfl) ?_
  refine ex_s (fun _ => ev_w (w' := wT w 0) rfl) ?_
  refine ex_s (fun _ => ev_aload_n dX12_account_19 rfl) ?_
  refine ex_s (fun _ => ev_getI fX12_43 dX12_account_20 (by decide) sh115 rfl) ?_
  refine ex_s (fun _ => ev_top (y := nI 0) rfl) ?_
  refine ex_s (fun _ => ev_if_le_t (tgt := 28) dX12_account_23 (by decide) (by decide)) ?_
  refine ex_s (fun _ => ev_iload_n dX12_account_28 rfl) ?_
  refine ex_s (fun _ => ev_tableIn (tgt := 111) (off := 82) dX12_account_29 (by decide) (by decide) (by decide +kernel) (by decide)) ?_
  refine ex_s (fun _ => ev_aload_n dX12_account_111 rfl) ?_
  refine ex_s (fun _ => ev_getR fX12_9 dX12_account_112 (by decide) sh115 rfl) ?_
  refine ex_s (fun _ => ev_bipush (v := nI 7) dX12_account_115 (by decide)) ?_
  refine ex_s (fun _ => ev_iaload dX12_account_117 rfl (by omega) (by decide) sh116) ?_
  refine ex_s (fun _ => ev_top (qr 0 (by decide)).1) ?_
  refine ex_s (fun _ => ev_aload_n dX12_account_118 rfl) ?_
  refine ex_s (fun _ => ev_getR fX12_9 dX12_account_119 (by decide) sh115 rfl) ?_
  refine ex_s (fun _ => ev_bipush (v := nI 10) dX12_account_122 (by decide)) ?_
  refine ex_s (fun _ => ev_iaload dX12_account_124 rfl (by omega) (by decide) sh116) ?_
  refine ex_s (fun _ => ev_top (qr 1 (by decide)).1) ?_
  refine ex_s (fun _ => ev_iadd dX12_account_125) ?_
  refine ex_s (fun _ => ev_top rfl) ?_
  refine ex_s (fun _ => ev_aload_n dX12_account_126 rfl) ?_
  refine ex_s (fun _ => ev_getR fX12_9 dX12_account_127 (by decide) sh115 rfl) ?_
  refine ex_s (fun _ => ev_bipush (v := nI 13) dX12_account_130 (by decide)) ?_
  refine ex_s (fun _ => ev_iaload dX12_account_132 rfl (by omega) (by decide) sh116) ?_
  refine ex_s (fun _ => ev_top (qr 2 (by decide)).1) ?_
  refine ex_s (fun _ => ev_iadd dX12_account_133) ?_
  refine ex_s (fun _ => ev_top rfl) ?_
  refine ex_s (fun _ => ev_aload_n dX12_account_134 rfl) ?_
  refine ex_s (fun _ => ev_getR fX12_9 dX12_account_135 (by decide) sh115 rfl) ?_
  refine ex_s (fun _ => ev_bipush (v := nI 16) dX12_account_138 (by decide)) ?_
  refine ex_s (fun _ => ev_iaload dX12_account_140 rfl (by omega) (by decide) sh116) ?_
  refine ex_s (fun _ => ev_top (qr 3 (by decide)).1) ?_
  refine ex_s (fun _ => ev_iadd dX12_account_141) ?_
  refine ex_s (fun _ => ev_top (y := al_S (aS A) 4) (by show _ = 0 + sC (aS A) 0 + sC (aS A) 1 + sC (aS A) 2 + sC (aS A) 3; rw [Int32.zero_add])) ?_
  exact ⟨_, _, (by exact ⟨_, rfl, fun _ => rfl, rfl, mX_t (k := 0) h, frG_cs frG_rf (by decide) _⟩), ev_iret dX12_account_142 rfl rfl rfl rfl⟩
set_option maxRecDepth 4000 in
theorem gX12_account_4 {G : GX} {w : WS} {A : AS} (h : mX A w) : ∃ o w2, (pMo (((0, acV A 4), A)) w o w2) ∧ Big G 9 0 mX12_account [.ref 115, .int (nI 4)] w o w2 := by
  have hT := mT (k := 0) h.1
  obtain ⟨⟨q0, q1, ⟨m0, m1, m2, m3, m4⟩, qr, qc, qv, qd⟩, hk1, hk2, hk3, hk4⟩ := id hT
  refine bx_of (P := pMo (((0, acV A 4), A)) w) (by decide +kernel) (Nat.le_of_ble_eq_true rfl) ?_
  show Ex G 9 0 mX12_account 0 [some (.ref 115), some (.int (nI 4))] [] w _
  refine ex_s (fun _ => ev_aload_n dX12_account_0 rfl) ?_
  refine ex_s (fun _ => ev_iload_n dX12_account_1 rfl) ?_
  refine ex_s (fun _ => ev_iconst dX12_account_2 ic0) ?_
  refine ex_s (fun _ => ev_bipush (v := nI 10) dX12_account_3 (by decide)) ?_
  refine ex_s (fun _ => ev_callS kX12_63 (qX12_in_t (by decide) (by decide)) dX12_account_5 rfl (by decide) (by decide) rfl) ?_
  refine ex_s (fun _ => ev_if_eq_f (tgt := 15) dX12_account_8 (by decide) (by decide)) ?_
  refine ex_s (fun _ => ev_iconst dX12_account_11 ic0) ?_
  refine ex_s (fun _ => ev_goto (tgt := 16) dX12_account_12 (by decide)) ?_
  refine ex_s (fun _ => ev_put fX12_43 dX12_account_16 rfl rfl (by decide) sh115 rfl) ?_
  refine ex_s (fun _ => ev_w (w' := wT w 0) rfl) ?_
  refine ex_s (fun _ => ev_aload_n dX12_account_19 rfl) ?_
  refine ex_s (fun _ => ev_getI fX12_43 dX12_account_20 (by decide) sh115 rfl) ?_
  refine ex_s (fun _ => ev_top (y := nI 0) rfl) ?_
  refine ex_s (fun _ => ev_if_le_t (tgt := 28) dX12_account_23 (by decide) (by decide)) ?_
  refine ex_s (fun _ => ev_iload_n dX12_account_28 rfl) ?_
  refine ex_s (fun _ => ev_tableIn (tgt := 143) (off := 114) dX12_account_29 (by decide) (by decide) (by decide +kernel) (by decide)) ?_
  refine ex_s (fun _ => ev_aload_n dX12_account_143 rfl) ?_
  refine ex_s (fun _ => ev_getR fX12_9 dX12_account_144 (by decide) sh115 rfl) ?_
  refine ex_s (fun _ => ev_iconst dX12_account_147 ic2) ?_
  refine ex_s (fun _ => ev_iaload dX12_account_148 rfl (by omega) (by decide) sh116) ?_
  refine ex_s (fun _ => ev_top m0) ?_
  exact ⟨_, _, (by exact ⟨_, rfl, fun _ => rfl, rfl, mX_t (k := 0) h, frG_cs frG_rf (by decide) _⟩), ev_iret dX12_account_149 rfl rfl rfl rfl⟩
set_option maxRecDepth 4000 in
theorem gX12_account_5 {G : GX} {w : WS} {A : AS} (h : mX A w) : ∃ o w2, (pMo (((0, acV A 5), A)) w o w2) ∧ Big G 9 0 mX12_account [.ref 115, .int (nI 5)] w o w2 := by
  have hT := mT (k := 0) h.1
  obtain ⟨⟨q0, q1, ⟨m0, m1, m2, m3, m4⟩, qr, qc, qv, qd⟩, hk1, hk2, hk3, hk4⟩ := id hT
  refine bx_of (P := pMo (((0, acV A 5), A)) w) (by decide +kernel) (Nat.le_of_ble_eq_true rfl) ?_
  show Ex G 9 0 mX12_account 0 [some (.ref 115), some (.int (nI 5))] [] w _
  refine ex_s (fun _ => ev_aload_n dX12_account_0 rfl) ?_
  refine ex_s (fun _ => ev_iload_n dX12_account_1 rfl) ?_
  refine ex_s (fun _ => ev_iconst dX12_account_2 ic0) ?_
  refine ex_s (fun _ => ev_bipush (v := nI 10) dX12_account_3 (by decide)) ?_
  refine ex_s (fun _ => ev_callS kX12_63 (qX12_in_t (by decide) (by decide)) dX12_account_5 rfl (by decide) (by decide) rfl) ?_
  refine ex_s (fun _ => ev_if_eq_f (tgt := 15) dX12_account_8 (by decide) (by decide)) ?_
  refine ex_s (fun _ => ev_iconst dX12_account_11 ic0) ?_
  refine ex_s (fun _ => ev_goto (tgt := 16) dX12_account_12 (by decide)) ?_
  refine ex_s (fun _ => ev_put fX12_43 dX12_account_16 rfl rfl (by decide) sh115 rfl) ?_
  refine ex_s (fun _ => ev_w (w' := wT w 0) rfl) ?_
  refine ex_s (fun _ => ev_aload_n dX12_account_19 rfl) ?_
  refine ex_s (fun _ => ev_getI fX12_43 dX12_account_20 (by decide) sh115 rfl) ?_
  refine ex_s (fun _ => ev_top (y := nI 0) rfl) ?_
  refine ex_s (fun _ => ev_if_le_t (tgt := 28) dX12_account_23 (by decide) (by decide)) ?_
  refine ex_s (fun _ => ev_iload_n dX12_account_28 rfl) ?_
  refine ex_s (fun _ => ev_tableIn (tgt := 160) (off := 131) dX12_account_29 (by decide) (by decide) (by decide +kernel) (by decide)) ?_
  refine ex_s (fun _ => ev_aload_n dX12_account_160 rfl) ?_
  refine ex_s (fun _ => ev_getR fX12_9 dX12_account_161 (by decide) sh115 rfl) ?_
  refine ex_s (fun _ => ev_iconst dX12_account_164 ic3) ?_
  refine ex_s (fun _ => ev_iload_n dX12_account_165 rfl) ?_
  refine ex_s (fun _ => ev_iadd dX12_account_166) ?_
  refine ex_s (fun _ => ev_top (nI_add _ _)) ?_
  refine ex_s (fun _ => ev_iconst dX12_account_167 ic5) ?_
  refine ex_s (fun _ => ev_isub dX12_account_168) ?_
  refine ex_s (fun _ => ev_top (y := nI 3) (by decide)) ?_
  refine ex_s (fun _ => ev_iaload dX12_account_169 rfl (by omega) (by decide) sh116) ?_
  refine ex_s (fun _ => ev_top m1) ?_
  exact ⟨_, _, (by exact ⟨_, rfl, fun _ => rfl, rfl, mX_t (k := 0) h, frG_cs frG_rf (by decide) _⟩), ev_iret dX12_account_170 rfl rfl rfl rfl⟩
set_option maxRecDepth 4000 in
theorem gX12_account_6 {G : GX} {w : WS} {A : AS} (h : mX A w) : ∃ o w2, (pMo (((0, acV A 6), A)) w o w2) ∧ Big G 9 0 mX12_account [.ref 115, .int (nI 6)] w o w2 := by
  have hT := mT (k := 0) h.1
  obtain ⟨⟨q0, q1, ⟨m0, m1, m2, m3, m4⟩, qr, qc, qv, qd⟩, hk1, hk2, hk3, hk4⟩ := id hT
  refine bx_of (P := pMo (((0, acV A 6), A)) w) (by decide +kernel) (Nat.le_of_ble_eq_true rfl) ?_
  show Ex G 9 0 mX12_account 0 [some (.ref 115), some (.int (nI 6))] [] w _
  refine ex_s (fun _ => ev_aload_n dX12_account_0 rfl) ?_
  refine ex_s (fun _ => ev_iload_n dX12_account_1 rfl) ?_
  refine ex_s (fun _ => ev_iconst dX12_account_2 ic0) ?_
  refine ex_s (fun _ => ev_bipush (v := nI 10) dX12_account_3 (by decide)) ?_
  refine ex_s (fun _ => ev_callS kX12_63 (qX12_in_t (by decide) (by decide)) dX12_account_5 rfl (by decide) (by decide) rfl) ?_
  refine ex_s (fun _ => ev_if_eq_f (tgt := 15) dX12_account_8 (by decide) (by decide)) ?_
  refine ex_s (fun _ => ev_iconst dX12_account_11 ic0) ?_
  refine ex_s (fun _ => ev_goto (tgt := 16) dX12_account_12 (by decide)) ?_
  refine ex_s (fun _ => ev_put fX12_43 dX12_account_16 rfl rfl (by decide) sh115 rfl) ?_
  refine ex_s (fun _ => ev_w (w' := wT w 0) rfl) ?_
  refine ex_s (fun _ => ev_aload_n dX12_account_19 rfl) ?_
  refine ex_s (fun _ => ev_getI fX12_43 dX12_account_20 (by decide) sh115 rfl) ?_
  refine ex_s (fun _ => ev_top (y := nI 0) rfl) ?_
  refine ex_s (fun _ => ev_if_le_t (tgt := 28) dX12_account_23 (by decide) (by decide)) ?_
  refine ex_s (fun _ => ev_iload_n dX12_account_28 rfl) ?_
  refine ex_s (fun _ => ev_tableIn (tgt := 160) (off := 131) dX12_account_29 (by decide) (by decide) (by decide +kernel) (by decide)) ?_
  refine ex_s (fun _ => ev_aload_n dX12_account_160 rfl) ?_
  refine ex_s (fun _ => ev_getR fX12_9 dX12_account_161 (by decide) sh115 rfl) ?_
  refine ex_s (fun _ => ev_iconst dX12_account_164 ic3) ?_
  refine ex_s (fun _ => ev_iload_n dX12_account_165 rfl) ?_
  refine ex_s (fun _ => ev_iadd dX12_account_166) ?_
  refine ex_s (fun _ => ev_top (nI_add _ _)) ?_
  refine ex_s (fun _ => ev_iconst dX12_account_167 ic5) ?_
  refine ex_s (fun _ => ev_isub dX12_account_168) ?_
  refine ex_s (fun _ => ev_top (y := nI 4) (by decide)) ?_
  refine ex_s (fun _ => ev_iaload dX12_account_169 rfl (by omega) (by decide) sh116) ?_
  refine ex_s (fun _ => ev_top m2) ?_
  exact ⟨_, _, (by exact ⟨_, rfl, fun _ => rfl, rfl, mX_t (k := 0) h, frG_cs frG_rf (by decide) _⟩), ev_iret dX12_account_170 rfl rfl rfl rfl⟩
set_option maxRecDepth 4000 in
theorem gX12_account_7 {G : GX} {w : WS} {A : AS} (h : mX A w) : ∃ o w2, (pMo (((0, acV A 7), A)) w o w2) ∧ Big G 9 0 mX12_account [.ref 115, .int (nI 7)] w o w2 := by
  have hT := mT (k := 0) h.1
  obtain ⟨⟨q0, q1, ⟨m0, m1, m2, m3, m4⟩, qr, qc, qv, qd⟩, hk1, hk2, hk3, hk4⟩ := id hT
  refine bx_of (P := pMo (((0, acV A 7), A)) w) (by decide +kernel) (Nat.le_of_ble_eq_true rfl) ?_
  show Ex G 9 0 mX12_account 0 [some (.ref 115), some (.int (nI 7))] [] w _
  refine ex_s (fun _ => ev_aload_n dX12_account_0 rfl) ?_
  refine ex_s (fun _ => ev_iload_n dX12_account_1 rfl) ?_
  refine ex_s (fun _ => ev_iconst dX12_account_2 ic0) ?_
  refine ex_s (fun _ => ev_bipush (v := nI 10) dX12_account_3 (by decide)) ?_
  refine ex_s (fun _ => ev_callS kX12_63 (qX12_in_t (by decide) (by decide)) dX12_account_5 rfl (by decide) (by decide) rfl) ?_
  refine ex_s (fun _ => ev_if_eq_f (tgt := 15) dX12_account_8 (by decide) (by decide)) ?_
  refine ex_s (fun _ => ev_iconst dX12_account_11 ic0) ?_
  refine ex_s (fun _ => ev_goto (tgt := 16) dX12_account_12 (by decide)) ?_
  refine ex_s (fun _ => ev_put fX12_43 dX12_account_16 rfl rfl (by decide) sh115 rfl) ?_
  refine ex_s (fun _ => ev_w (w' := wT w 0) rfl) ?_
  refine ex_s (fun _ => ev_aload_n dX12_account_19 rfl) ?_
  refine ex_s (fun _ => ev_getI fX12_43 dX12_account_20 (by decide) sh115 rfl) ?_
  refine ex_s (fun _ => ev_top (y := nI 0) rfl) ?_
  refine ex_s (fun _ => ev_if_le_t (tgt := 28) dX12_account_23 (by decide) (by decide)) ?_
  refine ex_s (fun _ => ev_iload_n dX12_account_28 rfl) ?_
  refine ex_s (fun _ => ev_tableIn (tgt := 160) (off := 131) dX12_account_29 (by decide) (by decide) (by decide +kernel) (by decide)) ?_
  refine ex_s (fun _ => ev_aload_n dX12_account_160 rfl) ?_
  refine ex_s (fun _ => ev_getR fX12_9 dX12_account_161 (by decide) sh115 rfl) ?_
  refine ex_s (fun _ => ev_iconst dX12_account_164 ic3) ?_
  refine ex_s (fun _ => ev_iload_n dX12_account_165 rfl) ?_
  refine ex_s (fun _ => ev_iadd dX12_account_166) ?_
  refine ex_s (fun _ => ev_top (nI_add _ _)) ?_
  refine ex_s (fun _ => ev_iconst dX12_account_167 ic5) ?_
  refine ex_s (fun _ => ev_isub dX12_account_168) ?_
  refine ex_s (fun _ => ev_top (y := nI 5) (by decide)) ?_
  refine ex_s (fun _ => ev_iaload dX12_account_169 rfl (by omega) (by decide) sh116) ?_
  refine ex_s (fun _ => ev_top m3) ?_
  exact ⟨_, _, (by exact ⟨_, rfl, fun _ => rfl, rfl, mX_t (k := 0) h, frG_cs frG_rf (by decide) _⟩), ev_iret dX12_account_170 rfl rfl rfl rfl⟩
set_option maxRecDepth 4000 in
theorem gX12_account_8 {G : GX} {w : WS} {A : AS} (h : mX A w) : ∃ o w2, (pMo (((0, acV A 8), A)) w o w2) ∧ Big G 9 0 mX12_account [.ref 115, .int (nI 8)] w o w2 := by
  have hT := mT (k := 0) h.1
  obtain ⟨⟨q0, q1, ⟨m0, m1, m2, m3, m4⟩, qr, qc, qv, qd⟩, hk1, hk2, hk3, hk4⟩ := id hT
  refine bx_of (P := pMo (((0, acV A 8), A)) w) (by decide +kernel) (Nat.le_of_ble_eq_true rfl) ?_
  show Ex G 9 0 mX12_account 0 [some (.ref 115), some (.int (nI 8))] [] w _
  refine ex_s (fun _ => ev_aload_n dX12_account_0 rfl) ?_
  refine ex_s (fun _ => ev_iload_n dX12_account_1 rfl) ?_
  refine ex_s (fun _ => ev_iconst dX12_account_2 ic0) ?_
  refine ex_s (fun _ => ev_bipush (v := nI 10) dX12_account_3 (by decide)) ?_
  refine ex_s (fun _ => ev_callS kX12_63 (qX12_in_t (by decide) (by decide)) dX12_account_5 rfl (by decide) (by decide) rfl) ?_
  refine ex_s (fun _ => ev_if_eq_f (tgt := 15) dX12_account_8 (by decide) (by decide)) ?_
  refine ex_s (fun _ => ev_iconst dX12_account_11 ic0) ?_
  refine ex_s (fun _ => ev_goto (tgt := 16) dX12_account_12 (by decide)) ?_
  refine ex_s (fun _ => ev_put fX12_43 dX12_account_16 rfl rfl (by decide) sh115 rfl) ?_
  refine ex_s (fun _ => ev_w (w' := wT w 0) rfl) ?_
  refine ex_s (fun _ => ev_aload_n dX12_account_19 rfl) ?_
  refine ex_s (fun _ => ev_getI fX12_43 dX12_account_20 (by decide) sh115 rfl) ?_
  refine ex_s (fun _ => ev_top (y := nI 0) rfl) ?_
  refine ex_s (fun _ => ev_if_le_t (tgt := 28) dX12_account_23 (by decide) (by decide)) ?_
  refine ex_s (fun _ => ev_iload_n dX12_account_28 rfl) ?_
  refine ex_s (fun _ => ev_tableIn (tgt := 160) (off := 131) dX12_account_29 (by decide) (by decide) (by decide +kernel) (by decide)) ?_
  refine ex_s (fun _ => ev_aload_n dX12_account_160 rfl) ?_
  refine ex_s (fun _ => ev_getR fX12_9 dX12_account_161 (by decide) sh115 rfl) ?_
  refine ex_s (fun _ => ev_iconst dX12_account_164 ic3) ?_
  refine ex_s (fun _ => ev_iload_n dX12_account_165 rfl) ?_
  refine ex_s (fun _ => ev_iadd dX12_account_166) ?_
  refine ex_s (fun _ => ev_top (nI_add _ _)) ?_
  refine ex_s (fun _ => ev_iconst dX12_account_167 ic5) ?_
  refine ex_s (fun _ => ev_isub dX12_account_168) ?_
  refine ex_s (fun _ => ev_top (y := nI 6) (by decide)) ?_
  refine ex_s (fun _ => ev_iaload dX12_account_169 rfl (by omega) (by decide) sh116) ?_
  refine ex_s (fun _ => ev_top m4) ?_
  exact ⟨_, _, (by exact ⟨_, rfl, fun _ => rfl, rfl, mX_t (k := 0) h, frG_cs frG_rf (by decide) _⟩), ev_iret dX12_account_170 rfl rfl rfl rfl⟩
set_option maxRecDepth 4000 in
theorem gX12_account_9 {G : GX} {w : WS} {A : AS} (h : mX A w) : ∃ o w2, (pMo (((0, acV A 9), A)) w o w2) ∧ Big G 9 0 mX12_account [.ref 115, .int (nI 9)] w o w2 := by
  have hT := mT (k := 0) h.1
  obtain ⟨⟨q0, q1, ⟨m0, m1, m2, m3, m4⟩, qr, qc, qv, qd⟩, hk1, hk2, hk3, hk4⟩ := id hT
  refine bx_of (P := pMo (((0, acV A 9), A)) w) (by decide +kernel) (Nat.le_of_ble_eq_true rfl) ?_
  show Ex G 9 0 mX12_account 0 [some (.ref 115), some (.int (nI 9))] [] w _
  refine ex_s (fun _ => ev_aload_n dX12_account_0 rfl) ?_
  refine ex_s (fun _ => ev_iload_n dX12_account_1 rfl) ?_
  refine ex_s (fun _ => ev_iconst dX12_account_2 ic0) ?_
  refine ex_s (fun _ => ev_bipush (v := nI 10) dX12_account_3 (by decide)) ?_
  refine ex_s (fun _ => ev_callS kX12_63 (qX12_in_t (by decide) (by decide)) dX12_account_5 rfl (by decide) (by decide) rfl) ?_
  refine ex_s (fun _ => ev_if_eq_f (tgt := 15) dX12_account_8 (by decide) (by decide)) ?_
  refine ex_s (fun _ => ev_iconst dX12_account_11 ic0) ?_
  refine ex_s (fun _ => ev_goto (tgt := 16) dX12_account_12 (by decide)) ?_
  refine ex_s (fun _ => ev_put fX12_43 dX12_account_16 rfl rfl (by decide) sh115 rfl) ?_
  refine ex_s (fun _ => ev_w (w' := wT w 0) rfl) ?_
  refine ex_s (fun _ => ev_aload_n dX12_account_19 rfl) ?_
  refine ex_s (fun _ => ev_getI fX12_43 dX12_account_20 (by decide) sh115 rfl) ?_
  refine ex_s (fun _ => ev_top (y := nI 0) rfl) ?_
  refine ex_s (fun _ => ev_if_le_t (tgt := 28) dX12_account_23 (by decide) (by decide)) ?_
  refine ex_s (fun _ => ev_iload_n dX12_account_28 rfl) ?_
  refine ex_s (fun _ => ev_tableIn (tgt := 150) (off := 121) dX12_account_29 (by decide) (by decide) (by decide +kernel) (by decide)) ?_
  refine ex_s (fun _ => ev_aload_n dX12_account_150 rfl) ?_
  refine ex_s (fun _ => ev_getI fX12_135 dX12_account_151 (by decide) sh115 rfl) ?_
  refine ex_s (fun _ => ev_top h.2.2.2.1.1) ?_
  exact ⟨_, _, (by exact ⟨_, rfl, fun _ => rfl, rfl, mX_t (k := 0) h, frG_cs frG_rf (by decide) _⟩), ev_iret dX12_account_154 rfl rfl rfl rfl⟩
set_option maxRecDepth 4000 in
theorem gX12_account_10 {G : GX} {w : WS} {A : AS} (h : mX A w) : ∃ o w2, (pMo (((0, acV A 10), A)) w o w2) ∧ Big G 9 0 mX12_account [.ref 115, .int (nI 10)] w o w2 := by
  have hT := mT (k := 0) h.1
  obtain ⟨⟨q0, q1, ⟨m0, m1, m2, m3, m4⟩, qr, qc, qv, qd⟩, hk1, hk2, hk3, hk4⟩ := id hT
  refine bx_of (P := pMo (((0, acV A 10), A)) w) (by decide +kernel) (Nat.le_of_ble_eq_true rfl) ?_
  show Ex G 9 0 mX12_account 0 [some (.ref 115), some (.int (nI 10))] [] w _
  refine ex_s (fun _ => ev_aload_n dX12_account_0 rfl) ?_
  refine ex_s (fun _ => ev_iload_n dX12_account_1 rfl) ?_
  refine ex_s (fun _ => ev_iconst dX12_account_2 ic0) ?_
  refine ex_s (fun _ => ev_bipush (v := nI 10) dX12_account_3 (by decide)) ?_
  refine ex_s (fun _ => ev_callS kX12_63 (qX12_in_t (by decide) (by decide)) dX12_account_5 rfl (by decide) (by decide) rfl) ?_
  refine ex_s (fun _ => ev_if_eq_f (tgt := 15) dX12_account_8 (by decide) (by decide)) ?_
  refine ex_s (fun _ => ev_iconst dX12_account_11 ic0) ?_
  refine ex_s (fun _ => ev_goto (tgt := 16) dX12_account_12 (by decide)) ?_
  refine ex_s (fun _ => ev_put fX12_43 dX12_account_16 rfl rfl (by decide) sh115 rfl) ?_
  refine ex_s (fun _ => ev_w (w' := wT w 0) rfl) ?_
  refine ex_s (fun _ => ev_aload_n dX12_account_19 rfl) ?_
  refine ex_s (fun _ => ev_getI fX12_43 dX12_account_20 (by decide) sh115 rfl) ?_
  refine ex_s (fun _ => ev_top (y := nI 0) rfl) ?_
  refine ex_s (fun _ => ev_if_le_t (tgt := 28) dX12_account_23 (by decide) (by decide)) ?_
  refine ex_s (fun _ => ev_iload_n dX12_account_28 rfl) ?_
  refine ex_s (fun _ => ev_tableIn (tgt := 155) (off := 126) dX12_account_29 (by decide) (by decide) (by decide +kernel) (by decide)) ?_
  refine ex_s (fun _ => ev_aload_n dX12_account_155 rfl) ?_
  refine ex_s (fun _ => ev_getI fX12_52 dX12_account_156 (by decide) sh115 rfl) ?_
  refine ex_s (fun _ => ev_top h.2.2.1.1) ?_
  exact ⟨_, _, (by exact ⟨_, rfl, fun _ => rfl, rfl, mX_t (k := 0) h, frG_cs frG_rf (by decide) _⟩), ev_iret dX12_account_159 rfl rfl rfl rfl⟩
theorem gX12_account_y {G : GX} {w : WS} {A : AS} (h : mX A w) {i : Nat} (hi : i < 11) : ∃ o w2, pMo ((0, acV A i), A) w o w2 ∧ Big G 9 0 mX12_account [.ref 115, .int (nI i)] w o w2 := by
  obtain rfl | rfl | rfl | rfl | rfl | rfl | rfl | rfl | rfl | rfl | rfl : i = 0 ∨ i = 1 ∨ i = 2 ∨ i = 3 ∨ i = 4 ∨ i = 5 ∨ i = 6 ∨ i = 7 ∨ i = 8 ∨ i = 9 ∨ i = 10 := by omega
  · exact gX12_account_0 h
  · exact gX12_account_1 h
  · exact gX12_account_2 h
  · exact gX12_account_3 h
  · exact gX12_account_4 h
  · exact gX12_account_5 h
  · exact gX12_account_6 h
  · exact gX12_account_7 h
  · exact gX12_account_8 h
  · exact gX12_account_9 h
  · exact gX12_account_10 h
theorem gX12_account {G : GX} {w : WS} {A : AS} (h : mX A w) (x : Int32) : ∃ o w2, pMo (spAcc A x) w o w2 ∧ Big G 9 0 mX12_account [.ref 115, .int x] w o w2 := by
  unfold spAcc
  rcases ixN_or 11 (by decide) x with ⟨h1, e1⟩ | ⟨i, h1, rfl, e1⟩
  · rw [e1]; exact gX12_account_n h h1
  · rw [e1]; exact gX12_account_y h h1
theorem mX_i {A : AS} {w : WS} (h : mX A w) {c : Nat} (h1 : 32 ≤ c) (h2 : c ≤ 126) (hn : aN A < 60) : mX (mkA (aS A) (aV A) (aH A) (aN A + 1) (va_up (aT A) (aN A) c) (aL A) (aK A) (aE A)) (cs_ (cs_ (wT w 0) 123 (upd (w.1 123) (aN A) (nI c))) 115 (upd ((wT w 0).1 115) 13 (nI (aN A + 1)))) := by
  obtain ⟨g1, g2, g3, g4, g5, g6, g7, g8⟩ := h
  refine ⟨mRe g1 rfl, g2, g3, ⟨rfl, hn, fun i hi => ?_⟩, g5, g6, g7, g8⟩
  have hi : i < aN A + 1 := hi
  show upd (w.1 123) (aN A) (nI c) i = nI (va_up (aT A) (aN A) c i) ∧ 32 ≤ va_up (aT A) (aN A) c i ∧ va_up (aT A) (aN A) c i ≤ 126
  unfold upd va_up
  by_cases e : i = aN A
  · rw [if_pos e, if_pos e]; exact ⟨rfl, h1, h2⟩
  · rw [if_neg e, if_neg e]; exact g4.2.2 i (by omega)
set_option maxRecDepth 4000 in
theorem gX12_append_n {G : GX} {w : WS} {A : AS} (h : mX A w) {c : Nat} (hc : c < 65536) (hx : c < 32 ∨ 126 < c) : ∃ o w2, (pMo (((1, 0), A)) w o w2) ∧ Big G 9 0 mX12_append [.ref 115, .int (nI c)] w o w2 := by
  refine bx_of (P := pMo (((1, 0), A)) w) (by decide +kernel) (Nat.le_of_ble_eq_true rfl) ?_
  show Ex G 9 0 mX12_append 0 [some (.ref 115), some (.int (nI c))] [] w _
  refine ex_s (fun _ => ev_aload_n dX12_append_0 rfl) ?_
  refine ex_s (fun _ => ev_iload_n dX12_append_1 rfl) ?_
  refine ex_s (fun _ => ev_bipush (v := nI 32) dX12_append_2 (by decide)) ?_
  refine ex_s (fun _ => ev_bipush (v := nI 126) dX12_append_4 (by decide)) ?_
  refine ex_s (fun _ => ev_callS kX12_63 (qX12_in_f (hx.elim (fun z => Or.inl ((pk_lt' (by omega) (by decide)).mpr z)) (fun z => Or.inr ((pk_lt' (by decide) (by omega)).mpr z)))) dX12_append_6 rfl (by decide) (by decide) rfl) ?_
  refine ex_s (fun _ => ev_if_ne_f (tgt := 16) dX12_append_9 (by decide) rfl) ?_
  refine ex_s (fun _ => ev_iconst dX12_append_12 ic1) ?_
  refine ex_s (fun _ => ev_goto (tgt := 30) dX12_append_13 (by decide)) ?_
  refine ex_s (fun _ => ev_put fX12_43 dX12_append_30 rfl rfl (by decide) sh115 rfl) ?_
  refine ex_s (fun _ => ev_aload_n dX12_append_33 rfl) ?_
  refine ex_s (fun _ => ev_getI fX12_43 dX12_append_34 (by decide) sh115 rfl) ?_
  refine ex_s (fun _ => ev_top (y := nI 1) rfl) ?_
  refine ex_s (fun _ => ev_if_le_f (tgt := 42) dX12_append_37 (by decide) (by decide)) ?_
  refine ex_s (fun _ => ev_iconst dX12_append_40 ic0) ?_
  exact ⟨_, _, (by exact ⟨_, rfl, fun z => absurd (show (1 : Nat) = 0 from z) (by decide), rfl, mX_t (k := 1) h, frG_cs frG_rf (by decide) _⟩), ev_iret dX12_append_41 rfl rfl rfl rfl⟩
set_option maxRecDepth 4000 in
theorem gX12_append_m {G : GX} {w : WS} {A : AS} (h : mX A w) {c : Nat} (h1 : 32 ≤ c) (h2 : c ≤ 126) (hn : 60 ≤ aN A) : ∃ o w2, (pMo (((2, 0), A)) w o w2) ∧ Big G 9 0 mX12_append [.ref 115, .int (nI c)] w o w2 := by
  refine bx_of (P := pMo (((2, 0), A)) w) (by decide +kernel) (Nat.le_of_ble_eq_true rfl) ?_
  show Ex G 9 0 mX12_append 0 [some (.ref 115), some (.int (nI c))] [] w _
  refine ex_s (fun _ => ev_aload_n dX12_append_0 rfl) ?_
  refine ex_s (fun _ => ev_iload_n dX12_append_1 rfl) ?_
  refine ex_s (fun _ => ev_bipush (v := nI 32) dX12_append_2 (by decide)) ?_
  refine ex_s (fun _ => ev_bipush (v := nI 126) dX12_append_4 (by decide)) ?_
  refine ex_s (fun _ => ev_callS kX12_63 (qX12_in_t (nI_le h1 (by omega)) (nI_le h2 (by decide))) dX12_append_6 rfl (by decide) (by decide) rfl) ?_
  refine ex_s (fun _ => ev_if_ne_t (tgt := 16) dX12_append_9 (by decide) (by decide)) ?_
  refine ex_s (fun _ => ev_aload_n dX12_append_16 rfl) ?_
  refine ex_s (fun _ => ev_getI fX12_135 dX12_append_17 (by decide) sh115 rfl) ?_
  refine ex_s (fun _ => ev_top (h.2.2.2.1.1.trans (by rw [show aN A = 60 by have := h.2.2.2.1.2.1; omega]) : _ = nI 60)) ?_
  refine ex_s (fun _ => ev_bipush (v := nI 60) dX12_append_20 (by decide)) ?_
  refine ex_s (fun _ => ev_icmp_ne_f (tgt := 29) dX12_append_22 (by decide) rfl) ?_
  refine ex_s (fun _ => ev_iconst dX12_append_25 ic2) ?_
  refine ex_s (fun _ => ev_goto (tgt := 30) dX12_append_26 (by decide)) ?_
  refine ex_s (fun _ => ev_put fX12_43 dX12_append_30 rfl rfl (by decide) sh115 rfl) ?_
  refine ex_s (fun _ => ev_aload_n dX12_append_33 rfl) ?_
  refine ex_s (fun _ => ev_getI fX12_43 dX12_append_34 (by decide) sh115 rfl) ?_
  refine ex_s (fun _ => ev_top (y := nI 2) rfl) ?_
  refine ex_s (fun _ => ev_if_le_f (tgt := 42) dX12_append_37 (by decide) (by decide)) ?_
  refine ex_s (fun _ => ev_iconst dX12_append_40 ic0) ?_
  exact ⟨_, _, (by exact ⟨_, rfl, fun z => absurd (show (2 : Nat) = 0 from z) (by decide), rfl, mX_t (k := 2) h, frG_cs frG_rf (by decide) _⟩), ev_iret dX12_append_41 rfl rfl rfl rfl⟩
set_option maxRecDepth 4000 in
theorem gX12_append_y {G : GX} {w : WS} {A : AS} (h : mX A w) {c : Nat} (h1 : 32 ≤ c) (h2 : c ≤ 126) (hn : aN A < 60) : ∃ o w2, (pMo (((0, nI (aN A + 1)), mkA (aS A) (aV A) (aH A) (aN A + 1) (va_up (aT A) (aN A) c) (aL A) (aK A) (aE A))) w o w2) ∧ Big G 9 0 mX12_append [.ref 115, .int (nI c)] w o w2 := by
  refine bx_of (P := pMo (((0, nI (aN A + 1)), mkA (aS A) (aV A) (aH A) (aN A + 1) (va_up (aT A) (aN A) c) (aL A) (aK A) (aE A))) w) (by decide +kernel) (Nat.le_of_ble_eq_true rfl) ?_
  show Ex G 9 0 mX12_append 0 [some (.ref 115), some (.int (nI c))] [] w _
  refine ex_s (fun _ => ev_aload_n dX12_append_0 rfl) ?_
  refine ex_s (fun _ => ev_iload_n dX12_append_1 rfl) ?_
  refine ex_s (fun _ => ev_bipush (v := nI 32) dX12_append_2 (by decide)) ?_
  refine ex_s (fun _ => ev_bipush (v := nI 126) dX12_append_4 (by decide)) ?_
  refine ex_s (fun _ => ev_callS kX12_63 (qX12_in_t (nI_le h1 (by omega)) (nI_le h2 (by decide))) dX12_append_6 rfl (by decide) (by decide) rfl) ?_
  refine ex_s (fun _ => ev_if_ne_t (tgt := 16) dX12_append_9 (by decide) (by decide)) ?_
  refine ex_s (fun _ => ev_aload_n dX12_append_16 rfl) ?_
  refine ex_s (fun _ => ev_getI fX12_135 dX12_append_17 (by decide) sh115 rfl) ?_
  refine ex_s (fun _ => ev_top h.2.2.2.1.1) ?_
  refine ex_s (fun _ => ev_bipush (v := nI 60) dX12_append_20 (by decide)) ?_
  refine ex_s (fun _ => ev_icmp_ne_t (tgt := 29) dX12_append_22 (by decide) (fun z => by have := nI_inj (by omega) (by decide) z; omega)) ?_
  refine ex_s (fun _ => ev_iconst dX12_append_29 ic0) ?_
  refine ex_s (fun _ => ev_put fX12_43 dX12_append_30 rfl rfl (by decide) sh115 rfl) ?_
  refine ex_s (fun _ => ev_w (w' := wT w 0) rfl) ?_
  refine ex_s (fun _ => ev_aload_n dX12_append_33 rfl) ?_
  refine ex_s (fun _ => ev_getI fX12_43 dX12_append_34 (by decide) sh115 rfl) ?_
  refine ex_s (fun _ => ev_top (y := nI 0) rfl) ?_
  refine ex_s (fun _ => ev_if_le_t (tgt := 42) dX12_append_37 (by decide) (by decide)) ?_
  refine ex_s (fun _ => ev_aload_n dX12_append_42 rfl) ?_
  refine ex_s (fun _ => ev_getR fX12_33 dX12_append_43 (by decide) sh115 rfl) ?_
  refine ex_s (fun _ => ev_aload_n dX12_append_46 rfl) ?_
  refine ex_s (fun _ => ev_getI fX12_135 dX12_append_47 (by decide) sh115 rfl) ?_
  refine ex_s (fun _ => ev_top h.2.2.2.1.1) ?_
  refine ex_s (fun _ => ev_iload_n dX12_append_50 rfl) ?_
  refine ex_s (fun _ => ev_castore dX12_append_51 rfl (by omega) (pC_nar (by omega)) (by decide) sh123) ?_
  refine ex_s (fun _ => ev_aload_n dX12_append_52 rfl) ?_
  refine ex_s (fun _ => ev_dup dX12_append_53 rfl) ?_
  refine ex_s (fun _ => ev_getI fX12_135 dX12_append_54 (by decide) sh115 rfl) ?_
  refine ex_s (fun _ => ev_top h.2.2.2.1.1) ?_
  refine ex_s (fun _ => ev_iconst dX12_append_57 ic1) ?_
  refine ex_s (fun _ => ev_iadd dX12_append_58) ?_
  first | refine ex_s (fun _ => ev_top (nI_add _ _)) ?_ | skip
  refine ex_s (fun _ => ev_put fX12_135 dX12_append_59 rfl rfl (by decide) sh115 rfl) ?_
  refine ex_s (fun _ => ev_aload_n dX12_append_62 rfl) ?_
  refine ex_s (fun _ => ev_getI fX12_135 dX12_append_63 (by decide) sh115 rfl) ?_
  refine ex_s (fun _ => ev_top (y := nI (aN A + 1)) rfl) ?_
  exact ⟨_, _, (by exact ⟨_, rfl, fun _ => rfl, rfl, mX_i h h1 h2 hn, frG_cs (frG_cs (frG_cs frG_rf (by decide) _) (by decide) _) (by decide) _⟩), ev_iret dX12_append_66 rfl rfl rfl rfl⟩
theorem gX12_append {G : GX} {w : WS} {A : AS} (h : mX A w) {c : Nat} (hc : c < 65536) : ∃ o w2, pMo (spApp A c) w o w2 ∧ Big G 9 0 mX12_append [.ref 115, .int (nI c)] w o w2 := by
  unfold spApp
  by_cases h1 : c < 32 ∨ 126 < c
  · rw [if_pos h1]; exact gX12_append_n h hc h1
  · rw [if_neg h1]
    by_cases h2 : 60 ≤ aN A
    · rw [if_pos h2]; exact gX12_append_m h (by omega) (by omega) h2
    · rw [if_neg h2]; exact gX12_append_y h (by omega) (by omega) (by omega)
set_option maxRecDepth 4000 in
theorem gX12_errorPosition_n {G : GX} {w : WS} {A : AS} (h : mX A w) (hn : aE A = none) : ∃ o w2, (pMo (((1, 0), A)) w o w2) ∧ Big G 9 0 mX12_errorPosition [.ref 115] w o w2 := by
  refine bx_of (P := pMo (((1, 0), A)) w) (by decide +kernel) (Nat.le_of_ble_eq_true rfl) ?_
  show Ex G 9 0 mX12_errorPosition 0 [some (.ref 115)] [] w _
  refine ex_s (fun _ => ev_aload_n dX12_errorPosition_0 rfl) ?_
  refine ex_s (fun _ => ev_aload_n dX12_errorPosition_1 rfl) ?_
  refine ex_s (fun _ => ev_getI fX12_36 dX12_errorPosition_2 (by decide) sh115 rfl) ?_
  refine ex_s (fun _ => ev_top (h.2.2.2.2.2.2.1.trans (by rw [hn]) : _ = oI none)) ?_
  refine ex_s (fun _ => ev_if_ge_f (tgt := 12) dX12_errorPosition_5 (by decide) (by decide)) ?_
  refine ex_s (fun _ => ev_iconst dX12_errorPosition_8 ic1) ?_
  refine ex_s (fun _ => ev_goto (tgt := 13) dX12_errorPosition_9 (by decide)) ?_
  refine ex_s (fun _ => ev_put fX12_43 dX12_errorPosition_13 rfl rfl (by decide) sh115 rfl) ?_
  refine ex_s (fun _ => ev_aload_n dX12_errorPosition_16 rfl) ?_
  refine ex_s (fun _ => ev_getI fX12_43 dX12_errorPosition_17 (by decide) sh115 rfl) ?_
  refine ex_s (fun _ => ev_top (y := nI 1) rfl) ?_
  refine ex_s (fun _ => ev_if_le_f (tgt := 27) dX12_errorPosition_20 (by decide) (by decide)) ?_
  refine ex_s (fun _ => ev_iconst dX12_errorPosition_23 ic0) ?_
  refine ex_s (fun _ => ev_goto (tgt := 31) dX12_errorPosition_24 (by decide)) ?_
  exact ⟨_, _, (by exact ⟨_, rfl, fun z => absurd (show (1 : Nat) = 0 from z) (by decide), rfl, mX_t (k := 1) h, frG_cs frG_rf (by decide) _⟩), ev_iret dX12_errorPosition_31 rfl rfl rfl rfl⟩
set_option maxRecDepth 4000 in
theorem gX12_errorPosition_y {G : GX} {w : WS} {A : AS} (h : mX A w) {p : Nat} (hn : aE A = some p) : ∃ o w2, (pMo (((0, nI p), A)) w o w2) ∧ Big G 9 0 mX12_errorPosition [.ref 115] w o w2 := by
  refine bx_of (P := pMo (((0, nI p), A)) w) (by decide +kernel) (Nat.le_of_ble_eq_true rfl) ?_
  show Ex G 9 0 mX12_errorPosition 0 [some (.ref 115)] [] w _
  refine ex_s (fun _ => ev_aload_n dX12_errorPosition_0 rfl) ?_
  refine ex_s (fun _ => ev_aload_n dX12_errorPosition_1 rfl) ?_
  refine ex_s (fun _ => ev_getI fX12_36 dX12_errorPosition_2 (by decide) sh115 rfl) ?_
  refine ex_s (fun _ => ev_top (h.2.2.2.2.2.2.1.trans (by rw [hn]) : _ = oI (some p))) ?_
  refine ex_s (fun _ => ev_if_ge_t (tgt := 12) dX12_errorPosition_5 (by decide) (nI_le (Nat.zero_le p) (by have := h.2.2.2.2.2.2.2 p hn; omega))) ?_
  refine ex_s (fun _ => ev_iconst dX12_errorPosition_12 ic0) ?_
  refine ex_s (fun _ => ev_put fX12_43 dX12_errorPosition_13 rfl rfl (by decide) sh115 rfl) ?_
  refine ex_s (fun _ => ev_w (w' := wT w 0) rfl) ?_
  refine ex_s (fun _ => ev_aload_n dX12_errorPosition_16 rfl) ?_
  refine ex_s (fun _ => ev_getI fX12_43 dX12_errorPosition_17 (by decide) sh115 rfl) ?_
  refine ex_s (fun _ => ev_top (y := nI 0) rfl) ?_
  refine ex_s (fun _ => ev_if_le_t (tgt := 27) dX12_errorPosition_20 (by decide) (by decide)) ?_
  refine ex_s (fun _ => ev_aload_n dX12_errorPosition_27 rfl) ?_
  refine ex_s (fun _ => ev_getI fX12_36 dX12_errorPosition_28 (by decide) sh115 rfl) ?_
  refine ex_s (fun _ => ev_top (y := nI p) (h.2.2.2.2.2.2.1.trans (by rw [hn]; rfl))) ?_
  exact ⟨_, _, (by exact ⟨_, rfl, fun _ => rfl, rfl, mX_t (k := 0) h, frG_cs frG_rf (by decide) _⟩), ev_iret dX12_errorPosition_31 rfl rfl rfl rfl⟩
theorem gX12_errorPosition {G : GX} {w : WS} {A : AS} (h : mX A w) : ∃ o w2, pMo (spErr A) w o w2 ∧ Big G 9 0 mX12_errorPosition [.ref 115] w o w2 := by
  unfold spErr
  cases e : aE A with
  | none => exact gX12_errorPosition_n h e
  | some p => exact gX12_errorPosition_y h e
set_option maxRecDepth 4000 in
theorem gX12_reason_n {G : GX} {w : WS} {A : AS} (h : mX A w) {x : Int32} (hx : out_ 3 x) {b : Bool} : ∃ o w2, (pMo (((1, 0), A)) w o w2) ∧ Big G 9 0 mX12_reason [.ref 115, .int x, .int (bI b)] w o w2 := by
  refine bx_of (P := pMo (((1, 0), A)) w) (by decide +kernel) (Nat.le_of_ble_eq_true rfl) ?_
  show Ex G 9 0 mX12_reason 0 [some (.ref 115), some (.int x), some (.int (bI b))] [] w _
  refine ex_s (fun _ => ev_aload_n dX12_reason_0 rfl) ?_
  refine ex_s (fun _ => ev_iload_n dX12_reason_1 rfl) ?_
  refine ex_s (fun _ => ev_iconst dX12_reason_2 ic0) ?_
  refine ex_s (fun _ => ev_iconst dX12_reason_3 ic2) ?_
  refine ex_s (fun _ => ev_callS kX12_63 (qX12_in_f (out_hi (by decide) hx)) dX12_reason_4 rfl (by decide) (by decide) rfl) ?_
  refine ex_s (fun _ => ev_if_ne_f (tgt := 14) dX12_reason_7 (by decide) rfl) ?_
  refine ex_s (fun _ => ev_iconst dX12_reason_10 ic1) ?_
  refine ex_s (fun _ => ev_goto (tgt := 15) dX12_reason_11 (by decide)) ?_
  refine ex_s (fun _ => ev_put fX12_43 dX12_reason_15 rfl rfl (by decide) sh115 rfl) ?_
  refine ex_s (fun _ => ev_aload_n dX12_reason_18 rfl) ?_
  refine ex_s (fun _ => ev_aload_n dX12_reason_19 rfl) ?_
  refine ex_s (fun _ => ev_getI fX12_43 dX12_reason_20 (by decide) sh115 rfl) ?_
  refine ex_s (fun _ => ev_top (y := nI 1) rfl) ?_
  refine ex_s (fun _ => ev_if_ne_t (tgt := 41) dX12_reason_23 (by decide) (by decide)) ?_
  refine ex_s (fun _ => ev_aload_n dX12_reason_41 rfl) ?_
  refine ex_s (fun _ => ev_getI fX12_43 dX12_reason_42 (by decide) sh115 rfl) ?_
  refine ex_s (fun _ => ev_top (y := nI 1) rfl) ?_
  refine ex_s (fun _ => ev_put fX12_43 dX12_reason_45 rfl rfl (by decide) sh115 rfl) ?_
  refine ex_s (fun _ => ev_aload_n dX12_reason_48 rfl) ?_
  refine ex_s (fun _ => ev_getI fX12_43 dX12_reason_49 (by decide) sh115 rfl) ?_
  refine ex_s (fun _ => ev_top (y := nI 1) rfl) ?_
  refine ex_s (fun _ => ev_if_le_f (tgt := 59) dX12_reason_52 (by decide) (by decide)) ?_
  refine ex_s (fun _ => ev_iconst dX12_reason_55 ic0) ?_
  refine ex_s (fun _ => ev_goto (tgt := 77) dX12_reason_56 (by decide)) ?_
  exact ⟨_, _, (by exact ⟨_, rfl, fun z => absurd (show (1 : Nat) = 0 from z) (by decide), rfl, mX_e h rfl rfl rfl rfl rfl rfl (frG_cs (frG_cs frG_rf (by decide) _) (by decide) _), frG_cs (frG_cs frG_rf (by decide) _) (by decide) _⟩), ev_iret dX12_reason_77 rfl rfl rfl rfl⟩
set_option maxRecDepth 4000 in
theorem gX12_reason_m {G : GX} {w : WS} {A : AS} (h : mX A w) {i : Nat} (hi : i < 3) {b : Bool} (hl : (aK A).length ≤ i) : ∃ o w2, (pMo (((2, 0), A)) w o w2) ∧ Big G 9 0 mX12_reason [.ref 115, .int (nI i), .int (bI b)] w o w2 := by
  refine bx_of (P := pMo (((2, 0), A)) w) (by decide +kernel) (Nat.le_of_ble_eq_true rfl) ?_
  show Ex G 9 0 mX12_reason 0 [some (.ref 115), some (.int (nI i)), some (.int (bI b))] [] w _
  refine ex_s (fun _ => ev_aload_n dX12_reason_0 rfl) ?_
  refine ex_s (fun _ => ev_iload_n dX12_reason_1 rfl) ?_
  refine ex_s (fun _ => ev_iconst dX12_reason_2 ic0) ?_
  refine ex_s (fun _ => ev_iconst dX12_reason_3 ic2) ?_
  refine ex_s (fun _ => ev_callS kX12_63 (qX12_in_t (nI_le (Nat.zero_le _) (by omega)) (nI_le (by omega) (by decide))) dX12_reason_4 rfl (by decide) (by decide) rfl) ?_
  refine ex_s (fun _ => ev_if_ne_t (tgt := 14) dX12_reason_7 (by decide) (by decide)) ?_
  refine ex_s (fun _ => ev_iconst dX12_reason_14 ic0) ?_
  refine ex_s (fun _ => ev_put fX12_43 dX12_reason_15 rfl rfl (by decide) sh115 rfl) ?_
  refine ex_s (fun _ => ev_w (w' := wT w 0) rfl) ?_
  refine ex_s (fun _ => ev_aload_n dX12_reason_18 rfl) ?_
  refine ex_s (fun _ => ev_aload_n dX12_reason_19 rfl) ?_
  refine ex_s (fun _ => ev_getI fX12_43 dX12_reason_20 (by decide) sh115 rfl) ?_
  refine ex_s (fun _ => ev_top (y := nI 0) rfl) ?_
  refine ex_s (fun _ => ev_if_ne_f (tgt := 41) dX12_reason_23 (by decide) rfl) ?_
  refine ex_s (fun _ => ev_aload_n dX12_reason_26 rfl) ?_
  refine ex_s (fun _ => ev_getR fX12_22 dX12_reason_27 (by decide) sh115 rfl) ?_
  refine ex_s (fun _ => ev_iconst dX12_reason_30 ic2) ?_
  refine ex_s (fun _ => ev_iload_n dX12_reason_31 rfl) ?_
  refine ex_s (fun _ => ev_imul dX12_reason_32) ?_
  first | refine ex_s (fun _ => ev_top (pk_mul _ _)) ?_ | skip
  refine ex_s (fun _ => ev_iaload dX12_reason_33 rfl (by omega) (by decide) sh120) ?_
  refine ex_s (fun _ => ev_top (h.2.2.2.2.2.1.2.2 i hi hl)) ?_
  refine ex_s (fun _ => ev_if_ne_f (tgt := 41) dX12_reason_34 (by decide) rfl) ?_
  refine ex_s (fun _ => ev_iconst dX12_reason_37 ic2) ?_
  refine ex_s (fun _ => ev_goto (tgt := 45) dX12_reason_38 (by decide)) ?_
  refine ex_s (fun _ => ev_put fX12_43 dX12_reason_45 rfl rfl (by decide) sh115 rfl) ?_
  refine ex_s (fun _ => ev_aload_n dX12_reason_48 rfl) ?_
  refine ex_s (fun _ => ev_getI fX12_43 dX12_reason_49 (by decide) sh115 rfl) ?_
  refine ex_s (fun _ => ev_top (y := nI 2) rfl) ?_
  refine ex_s (fun _ => ev_if_le_f (tgt := 59) dX12_reason_52 (by decide) (by decide)) ?_
  refine ex_s (fun _ => ev_iconst dX12_reason_55 ic0) ?_
  refine ex_s (fun _ => ev_goto (tgt := 77) dX12_reason_56 (by decide)) ?_
  exact ⟨_, _, (by exact ⟨_, rfl, fun z => absurd (show (2 : Nat) = 0 from z) (by decide), rfl, mX_e h rfl rfl rfl rfl rfl rfl (frG_cs (frG_cs frG_rf (by decide) _) (by decide) _), frG_cs (frG_cs frG_rf (by decide) _) (by decide) _⟩), ev_iret dX12_reason_77 rfl rfl rfl rfl⟩
set_option maxRecDepth 4000 in
theorem gX12_reason_y {G : GX} {w : WS} {A : AS} (h : mX A w) {i : Nat} (hi : i < 3) {b : Bool} {z : Int32 × Int32} (hz : (aK A)[i]? = some z) : ∃ o w2, (pMo (((0, if b = true then z.2 else z.1), A)) w o w2) ∧ Big G 9 0 mX12_reason [.ref 115, .int (nI i), .int (bI b)] w o w2 := by
  obtain ⟨hz1, hz2, hz3⟩ := h.2.2.2.2.2.1.2.1 i z hz
  refine bx_of (P := pMo (((0, if b = true then z.2 else z.1), A)) w) (by decide +kernel) (Nat.le_of_ble_eq_true rfl) ?_
  show Ex G 9 0 mX12_reason 0 [some (.ref 115), some (.int (nI i)), some (.int (bI b))] [] w _
  refine ex_s (fun _ => ev_aload_n dX12_reason_0 rfl) ?_
  refine ex_s (fun _ => ev_iload_n dX12_reason_1 rfl) ?_
  refine ex_s (fun _ => ev_iconst dX12_reason_2 ic0) ?_
  refine ex_s (fun _ => ev_iconst dX12_reason_3 ic2) ?_
  refine ex_s (fun _ => ev_callS kX12_63 (qX12_in_t (nI_le (Nat.zero_le _) (by omega)) (nI_le (by omega) (by decide))) dX12_reason_4 rfl (by decide) (by decide) rfl) ?_
  refine ex_s (fun _ => ev_if_ne_t (tgt := 14) dX12_reason_7 (by decide) (by decide)) ?_
  refine ex_s (fun _ => ev_iconst dX12_reason_14 ic0) ?_
  refine ex_s (fun _ => ev_put fX12_43 dX12_reason_15 rfl rfl (by decide) sh115 rfl) ?_
  refine ex_s (fun _ => ev_w (w' := wT w 0) rfl) ?_
  refine ex_s (fun _ => ev_aload_n dX12_reason_18 rfl) ?_
  refine ex_s (fun _ => ev_aload_n dX12_reason_19 rfl) ?_
  refine ex_s (fun _ => ev_getI fX12_43 dX12_reason_20 (by decide) sh115 rfl) ?_
  refine ex_s (fun _ => ev_top (y := nI 0) rfl) ?_
  refine ex_s (fun _ => ev_if_ne_f (tgt := 41) dX12_reason_23 (by decide) rfl) ?_
  refine ex_s (fun _ => ev_aload_n dX12_reason_26 rfl) ?_
  refine ex_s (fun _ => ev_getR fX12_22 dX12_reason_27 (by decide) sh115 rfl) ?_
  refine ex_s (fun _ => ev_iconst dX12_reason_30 ic2) ?_
  refine ex_s (fun _ => ev_iload_n dX12_reason_31 rfl) ?_
  refine ex_s (fun _ => ev_imul dX12_reason_32) ?_
  first | refine ex_s (fun _ => ev_top (pk_mul _ _)) ?_ | skip
  refine ex_s (fun _ => ev_iaload dX12_reason_33 rfl (by omega) (by decide) sh120) ?_
  refine ex_s (fun _ => ev_top hz1) ?_
  refine ex_s (fun _ => ev_if_ne_t (tgt := 41) dX12_reason_34 (by decide) hz3) ?_
  refine ex_s (fun _ => ev_aload_n dX12_reason_41 rfl) ?_
  refine ex_s (fun _ => ev_getI fX12_43 dX12_reason_42 (by decide) sh115 rfl) ?_
  refine ex_s (fun _ => ev_top (y := nI 0) rfl) ?_
  refine ex_s (fun _ => ev_put fX12_43 dX12_reason_45 rfl rfl (by decide) sh115 rfl) ?_
  refine ex_s (fun _ => ev_aload_n dX12_reason_48 rfl) ?_
  refine ex_s (fun _ => ev_getI fX12_43 dX12_reason_49 (by decide) sh115 rfl) ?_
  refine ex_s (fun _ => ev_top (y := nI 0) rfl) ?_
  refine ex_s (fun _ => ev_if_le_t (tgt := 59) dX12_reason_52 (by decide) (by decide)) ?_
  refine ex_s (fun _ => ev_aload_n dX12_reason_59 rfl) ?_
  refine ex_s (fun _ => ev_getR fX12_22 dX12_reason_60 (by decide) sh115 rfl) ?_
  refine ex_s (fun _ => ev_iconst dX12_reason_63 ic2) ?_
  refine ex_s (fun _ => ev_iload_n dX12_reason_64 rfl) ?_
  refine ex_s (fun _ => ev_imul dX12_reason_65) ?_
  first | refine ex_s (fun _ => ev_top (pk_mul _ _)) ?_ | skip
  refine ex_s (fun _ => ev_iload_n dX12_reason_66 rfl) ?_
  refine ex_b0 (fun _ => ev_ifb_eq (tgt := 74) dX12_reason_67 (by decide)) (fun hc67 => ?_) (fun hc67 => ?_)
  · refine ex_s (fun _ => ev_iconst dX12_reason_74 ic0) ?_
    refine ex_s (fun _ => ev_iadd dX12_reason_75) ?_
    first | refine ex_s (fun _ => ev_top (nI_add _ _)) ?_ | skip
    refine ex_s (fun _ => ev_iaload dX12_reason_76 rfl (by omega) (by decide) sh120) ?_
    refine ex_s (fun _ => ev_top hz1) ?_
    exact ⟨_, _, (by exact ⟨_, rfl, fun _ => by rw [hc67]; rfl, rfl, mX_e h rfl rfl rfl rfl rfl rfl (frG_cs (frG_cs frG_rf (by decide) _) (by decide) _), frG_cs (frG_cs frG_rf (by decide) _) (by decide) _⟩), ev_iret dX12_reason_77 rfl rfl rfl rfl⟩
  · refine ex_s (fun _ => ev_iconst dX12_reason_70 ic1) ?_
    refine ex_s (fun _ => ev_goto (tgt := 75) dX12_reason_71 (by decide)) ?_
    refine ex_s (fun _ => ev_iadd dX12_reason_75) ?_
    first | refine ex_s (fun _ => ev_top (nI_add _ _)) ?_ | skip
    refine ex_s (fun _ => ev_iaload dX12_reason_76 rfl (by omega) (by decide) sh120) ?_
    refine ex_s (fun _ => ev_top hz2) ?_
    exact ⟨_, _, (by exact ⟨_, rfl, fun _ => by rw [hc67]; rfl, rfl, mX_e h rfl rfl rfl rfl rfl rfl (frG_cs (frG_cs frG_rf (by decide) _) (by decide) _), frG_cs (frG_cs frG_rf (by decide) _) (by decide) _⟩), ev_iret dX12_reason_77 rfl rfl rfl rfl⟩
theorem gX12_reason {G : GX} {w : WS} {A : AS} (h : mX A w) (x : Int32) (b : Bool) : ∃ o w2, pMo (spRea A x b) w o w2 ∧ Big G 9 0 mX12_reason [.ref 115, .int x, .int (bI b)] w o w2 := by
  unfold spRea
  rcases ixN_or 3 (by decide) x with ⟨h1, e1⟩ | ⟨i, h1, rfl, e1⟩
  · rw [e1]; exact gX12_reason_n h h1
  · rw [e1]
    dsimp only
    cases e2 : (aK A)[i]? with
    | none => exact gX12_reason_m h h1 (List.getElem?_eq_none_iff.mp e2)
    | some z => exact gX12_reason_y h h1 e2
set_option maxRecDepth 4000 in
theorem gX12_undo_n {G : GX} {w : WS} {A : AS} (h : mX A w) (hn : aH A = []) : ∃ o w2, (pMo (((1, 0), A)) w o w2) ∧ Big G 9 0 mX12_undo [.ref 115] w o w2 := by
  refine bx_of (P := pMo (((1, 0), A)) w) (by decide +kernel) (Nat.le_of_ble_eq_true rfl) ?_
  show Ex G 9 0 mX12_undo 0 [some (.ref 115)] [] w _
  refine ex_s (fun _ => ev_aload_n dX12_undo_0 rfl) ?_
  refine ex_s (fun _ => ev_aload_n dX12_undo_1 rfl) ?_
  refine ex_s (fun _ => ev_getI fX12_52 dX12_undo_2 (by decide) sh115 rfl) ?_
  refine ex_s (fun _ => ev_top (h.2.2.1.1.trans (by rw [hn]; rfl) : _ = nI 0)) ?_
  refine ex_s (fun _ => ev_if_ne_f (tgt := 12) dX12_undo_5 (by decide) rfl) ?_
  refine ex_s (fun _ => ev_iconst dX12_undo_8 ic1) ?_
  refine ex_s (fun _ => ev_goto (tgt := 13) dX12_undo_9 (by decide)) ?_
  refine ex_s (fun _ => ev_put fX12_43 dX12_undo_13 rfl rfl (by decide) sh115 rfl) ?_
  refine ex_s (fun _ => ev_aload_n dX12_undo_16 rfl) ?_
  refine ex_s (fun _ => ev_getI fX12_43 dX12_undo_17 (by decide) sh115 rfl) ?_
  refine ex_s (fun _ => ev_top (y := nI 1) rfl) ?_
  refine ex_s (fun _ => ev_if_le_f (tgt := 25) dX12_undo_20 (by decide) (by decide)) ?_
  refine ex_s (fun _ => ev_iconst dX12_undo_23 ic0) ?_
  exact ⟨_, _, (by exact ⟨_, rfl, fun z => absurd (show (1 : Nat) = 0 from z) (by decide), rfl, mX_t (k := 1) h, frG_cs frG_rf (by decide) _⟩), ev_iret dX12_undo_24 rfl rfl rfl rfl⟩
set_option maxRecDepth 4000 in
theorem gX12_undo_y {G : GX} {w : WS} {A : AS} (h : mX A w) {c : Nat} (hc : (aH A).length = c + 1) {T : ST} (hT : (aH A)[c]? = some T) : ∃ o w2, (pMo (((0, nI ((aH A).length - 1)), mkA T (aV A) (aH A).dropLast (aN A) (aT A) (aL A) (aK A) (aE A))) w o w2) ∧ Big G 9 0 mX12_undo [.ref 115] w o w2 := by
  obtain ⟨g1, g2, ⟨h1, h2, h3⟩, g4, g5, g6, g7, g8⟩ := id h
  have hh := h3 c T hT
  have hd1 : nI c = nI (aH A).dropLast.length := by rw [List.length_dropLast, hc]; rfl
  have hd2 : (aH A).dropLast.length ≤ 6 := by rw [List.length_dropLast]; omega
  have hd3 : ∀ i V, (aH A).dropLast[i]? = some V → rA V (fun k => w.1 119 (158 * i + k)) ∧ okS V := fun i V hV => by
    rw [List.getElem?_dropLast] at hV
    split at hV
    · exact h3 i V hV
    · cases hV
  refine bx_of (P := pMo (((0, nI ((aH A).length - 1)), mkA T (aV A) (aH A).dropLast (aN A) (aT A) (aL A) (aK A) (aE A))) w) (by decide +kernel) (Nat.le_of_ble_eq_true rfl) ?_
  show Ex G 9 0 mX12_undo 0 [some (.ref 115)] [] w _
  refine ex_s (fun _ => ev_aload_n dX12_undo_0 rfl) ?_
  refine ex_s (fun _ => ev_aload_n dX12_undo_1 rfl) ?_
  refine ex_s (fun _ => ev_getI fX12_52 dX12_undo_2 (by decide) sh115 rfl) ?_
  refine ex_s (fun _ => ev_top (h1.trans (by rw [hc]) : _ = nI (c + 1))) ?_
  refine ex_s (fun _ => ev_if_ne_t (tgt := 12) dX12_undo_5 (by decide) (fun q => absurd (nI_inj (a := c + 1) (b := 0) (by omega) (by decide) q) (by omega))) ?_
  refine ex_s (fun _ => ev_iconst dX12_undo_12 ic0) ?_
  refine ex_s (fun _ => ev_put fX12_43 dX12_undo_13 rfl rfl (by decide) sh115 rfl) ?_
  refine ex_s (fun _ => ev_w (w' := wT w 0) rfl) ?_
  refine ex_s (fun _ => ev_aload_n dX12_undo_16 rfl) ?_
  refine ex_s (fun _ => ev_getI fX12_43 dX12_undo_17 (by decide) sh115 rfl) ?_
  refine ex_s (fun _ => ev_top (y := nI 0) rfl) ?_
  refine ex_s (fun _ => ev_if_le_t (tgt := 25) dX12_undo_20 (by decide) (by decide)) ?_
  refine ex_s (fun _ => ev_aload_n dX12_undo_25 rfl) ?_
  refine ex_s (fun _ => ev_dup dX12_undo_26 rfl) ?_
  refine ex_s (fun _ => ev_getI fX12_52 dX12_undo_27 (by decide) sh115 rfl) ?_
  refine ex_s (fun _ => ev_top (h1.trans (by rw [hc]) : _ = nI (c + 1))) ?_
  refine ex_s (fun _ => ev_iconst dX12_undo_30 ic1) ?_
  refine ex_s (fun _ => ev_isub dX12_undo_31) ?_
  refine ex_s (fun _ => ev_top (y := nI c) (pk_sub (Nat.succ_le_succ (Nat.zero_le _)))) ?_
  refine ex_s (fun _ => ev_put fX12_52 dX12_undo_32 rfl rfl (by decide) sh115 rfl) ?_
  refine ex_s (fun _ => ev_w (w' := (cs_ (wT w 0) 115 (upd ((wT w 0).1 115) 5 (nI c)))) rfl) ?_
  refine ex_s (fun _ => ev_aload_n dX12_undo_35 rfl) ?_
  refine ex_s (fun _ => ev_getR fX12_19 dX12_undo_36 (by decide) sh115 rfl) ?_
  refine ex_s (fun _ => ev_sipush (v := nI 158) dX12_undo_39 (by decide)) ?_
  refine ex_s (fun _ => ev_aload_n dX12_undo_42 rfl) ?_
  refine ex_s (fun _ => ev_getI fX12_52 dX12_undo_43 (by decide) sh115 rfl) ?_
  refine ex_s (fun _ => ev_top (y := nI c) rfl) ?_
  refine ex_s (fun _ => ev_imul dX12_undo_46) ?_
  first | refine ex_s (fun _ => ev_top (pk_mul _ _)) ?_ | skip
  refine ex_s (fun _ => ev_aload_n dX12_undo_47 rfl) ?_
  refine ex_s (fun _ => ev_getR fX12_9 dX12_undo_48 (by decide) sh115 rfl) ?_
  refine ex_s (fun _ => ev_iconst dX12_undo_51 ic0) ?_
  refine ex_s (fun _ => ev_sipush (v := nI 158) dX12_undo_52 (by decide)) ?_
  refine ex_s (fun _ => ev_copy aX12_46 dX12_undo_55 rfl rfl rfl (by decide) (by decide) sh119 sh116 (by omega) (by omega) rfl) ?_
  refine ex_s (fun _ => ev_aload_n dX12_undo_58 rfl) ?_
  refine ex_s (fun _ => ev_getI fX12_52 dX12_undo_59 (by decide) sh115 rfl) ?_
  refine ex_s (fun _ => ev_top (y := nI c) rfl) ?_
  exact ⟨_, _, (by exact ⟨_, rfl, fun _ => by rw [hc]; rfl, rfl, ⟨⟨rA_eq hh.1 hh.2 (fun k hk => by
              show va_cpy (w.1 119) (w.1 116) (158 * c) 0 158 k = w.1 119 (158 * c + k)
              rw [pk_cpy_in (by omega) (by omega), Nat.sub_zero]), hh.2⟩, g2, ⟨hd1, hd2, hd3⟩, g4, g5, g6, g7, g8⟩, frG_cs (frG_cs (frG_cs frG_rf (by decide) _) (by decide) _) (by decide) _⟩), ev_iret dX12_undo_62 rfl rfl rfl rfl⟩
theorem gX12_undo {G : GX} {w : WS} {A : AS} (h : mX A w) : ∃ o w2, pMo (spUndo A) w o w2 ∧ Big G 9 0 mX12_undo [.ref 115] w o w2 := by
  unfold spUndo
  cases e : (aH A).getLast? with
  | none => exact gX12_undo_n h (List.getLast?_eq_none_iff.mp e)
  | some T =>
    have hne : aH A ≠ [] := fun q => by rw [q] at e; cases e
    have hp : 0 < (aH A).length := List.length_pos_iff.mpr hne
    rw [List.getLast?_eq_getElem?] at e
    exact gX12_undo_y h (c := (aH A).length - 1) (by omega) e
set_option maxRecDepth 4000 in
theorem gX12_save {G : GX} {w : WS} {A : AS} (h : mX A w) : ∃ o w2, (pMo (spSave A) w o w2) ∧ Big G 9 0 mX12_save [.ref 115] w o w2 := by
  obtain ⟨g1, g2, g3, g4, g5, g6, g7, g8⟩ := id h
  refine bx_of (P := pMo (spSave A) w) (by decide +kernel) (Nat.le_of_ble_eq_true rfl) ?_
  show Ex G 9 0 mX12_save 0 [some (.ref 115)] [] w _
  refine ex_s (fun _ => ev_aload_n dX12_save_0 rfl) ?_
  refine ex_s (fun _ => ev_iconst dX12_save_1 ic0) ?_
  refine ex_s (fun _ => ev_put fX12_43 dX12_save_2 rfl rfl (by decide) sh115 rfl) ?_
  refine ex_s (fun _ => ev_w (w' := wT w 0) rfl) ?_
  refine ex_s (fun _ => ev_aload_n dX12_save_5 rfl) ?_
  refine ex_s (fun _ => ev_getR fX12_9 dX12_save_6 (by decide) sh115 rfl) ?_
  refine ex_s (fun _ => ev_iconst dX12_save_9 ic0) ?_
  refine ex_s (fun _ => ev_aload_n dX12_save_10 rfl) ?_
  refine ex_s (fun _ => ev_getR fX12_16 dX12_save_11 (by decide) sh115 rfl) ?_
  refine ex_s (fun _ => ev_iconst dX12_save_14 ic0) ?_
  refine ex_s (fun _ => ev_sipush (v := nI 158) dX12_save_15 (by decide)) ?_
  refine ex_s (fun _ => ev_copy aX12_46 dX12_save_18 rfl rfl rfl (by decide) (by decide) sh116 sh118 (by omega) (by omega) rfl) ?_
  refine ex_s (fun _ => ev_aload_n dX12_save_21 rfl) ?_
  refine ex_s (fun _ => ev_iconst dX12_save_22 ic1) ?_
  refine ex_s (fun _ => ev_put fX12_266 dX12_save_23 rfl rfl (by decide) sh115 rfl) ?_
  refine ex_s (fun _ => ev_aload_n dX12_save_26 rfl) ?_
  refine ex_s (fun _ => ev_getR fX12_9 dX12_save_27 (by decide) sh115 rfl) ?_
  refine ex_s (fun _ => ev_iconst dX12_save_30 ic0) ?_
  refine ex_s (fun _ => ev_iaload dX12_save_31 rfl (by omega) (by decide) sh116) ?_
  refine ex_s (fun _ => ev_top g1.1.1) ?_
  exact ⟨_, _, (by exact ⟨_, rfl, fun _ => rfl, rfl, ⟨mRe g1 rfl, ⟨fun z => (by cases z), fun T hT => by
              cases hT
              exact ⟨rfl, rA_eq g1.1 g1.2 (fun k hk => by
                show va_cpy (w.1 116) (w.1 118) 0 0 158 k = w.1 116 k
                rw [pk_cpy_in (by omega) (by omega), show 0 + (k - 0) = k by omega]), g1.2⟩⟩, g3, g4, g5, g6, g7, g8⟩, frG_cs (frG_cs (frG_cs frG_rf (by decide) _) (by decide) _) (by decide) _⟩), ev_iret dX12_save_32 rfl rfl rfl rfl⟩
set_option maxRecDepth 4000 in
theorem gX12_restore_n {G : GX} {w : WS} {A : AS} (h : mX A w) (hn : aV A = none) : ∃ o w2, (pMo (((1, 0), A)) w o w2) ∧ Big G 9 0 mX12_restore [.ref 115] w o w2 := by
  refine bx_of (P := pMo (((1, 0), A)) w) (by decide +kernel) (Nat.le_of_ble_eq_true rfl) ?_
  show Ex G 9 0 mX12_restore 0 [some (.ref 115)] [] w _
  refine ex_s (fun _ => ev_aload_n dX12_restore_0 rfl) ?_
  refine ex_s (fun _ => ev_aload_n dX12_restore_1 rfl) ?_
  refine ex_s (fun _ => ev_getI fX12_266 dX12_restore_2 (by decide) sh115 rfl) ?_
  refine ex_s (fun _ => ev_top (h.2.1.1 hn)) ?_
  refine ex_s (fun _ => ev_if_eq_t (tgt := 12) dX12_restore_5 (by decide) rfl) ?_
  refine ex_s (fun _ => ev_iconst dX12_restore_12 ic1) ?_
  refine ex_s (fun _ => ev_put fX12_43 dX12_restore_13 rfl rfl (by decide) sh115 rfl) ?_
  refine ex_s (fun _ => ev_aload_n dX12_restore_16 rfl) ?_
  refine ex_s (fun _ => ev_getI fX12_43 dX12_restore_17 (by decide) sh115 rfl) ?_
  refine ex_s (fun _ => ev_top (y := nI 1) rfl) ?_
  refine ex_s (fun _ => ev_if_le_f (tgt := 25) dX12_restore_20 (by decide) (by decide)) ?_
  refine ex_s (fun _ => ev_iconst dX12_restore_23 ic0) ?_
  exact ⟨_, _, (by exact ⟨_, rfl, fun z => absurd (show (1 : Nat) = 0 from z) (by decide), rfl, mX_t (k := 1) h, frG_cs frG_rf (by decide) _⟩), ev_iret dX12_restore_24 rfl rfl rfl rfl⟩
set_option maxRecDepth 4000 in
theorem gX12_restore_y {G : GX} {w : WS} {A : AS} (h : mX A w) {T : ST} (hT : aV A = some T) : ∃ o w2, (pMo (((0, nI (nR T)), mkA T (aV A) [] (aN A) (aT A) (aL A) (aK A) (aE A))) w o w2) ∧ Big G 9 0 mX12_restore [.ref 115] w o w2 := by
  obtain ⟨g1, g2, g3, g4, g5, g6, g7, g8⟩ := id h
  have hv := g2.2 T hT
  have hr : rA T (va_cpy (w.1 118) (w.1 116) 0 0 158) := rA_eq hv.2.1 hv.2.2 (fun k hk => by rw [pk_cpy_in (by omega) (by omega), show 0 + (k - 0) = k by omega])
  refine bx_of (P := pMo (((0, nI (nR T)), mkA T (aV A) [] (aN A) (aT A) (aL A) (aK A) (aE A))) w) (by decide +kernel) (Nat.le_of_ble_eq_true rfl) ?_
  show Ex G 9 0 mX12_restore 0 [some (.ref 115)] [] w _
  refine ex_s (fun _ => ev_aload_n dX12_restore_0 rfl) ?_
  refine ex_s (fun _ => ev_aload_n dX12_restore_1 rfl) ?_
  refine ex_s (fun _ => ev_getI fX12_266 dX12_restore_2 (by decide) sh115 rfl) ?_
  refine ex_s (fun _ => ev_top hv.1) ?_
  refine ex_s (fun _ => ev_if_eq_f (tgt := 12) dX12_restore_5 (by decide) (by decide)) ?_
  refine ex_s (fun _ => ev_iconst dX12_restore_8 ic0) ?_
  refine ex_s (fun _ => ev_goto (tgt := 13) dX12_restore_9 (by decide)) ?_
  refine ex_s (fun _ => ev_put fX12_43 dX12_restore_13 rfl rfl (by decide) sh115 rfl) ?_
  refine ex_s (fun _ => ev_w (w' := wT w 0) rfl) ?_
  refine ex_s (fun _ => ev_aload_n dX12_restore_16 rfl) ?_
  refine ex_s (fun _ => ev_getI fX12_43 dX12_restore_17 (by decide) sh115 rfl) ?_
  refine ex_s (fun _ => ev_top (y := nI 0) rfl) ?_
  refine ex_s (fun _ => ev_if_le_t (tgt := 25) dX12_restore_20 (by decide) (by decide)) ?_
  refine ex_s (fun _ => ev_aload_n dX12_restore_25 rfl) ?_
  refine ex_s (fun _ => ev_getR fX12_16 dX12_restore_26 (by decide) sh115 rfl) ?_
  refine ex_s (fun _ => ev_iconst dX12_restore_29 ic0) ?_
  refine ex_s (fun _ => ev_aload_n dX12_restore_30 rfl) ?_
  refine ex_s (fun _ => ev_getR fX12_9 dX12_restore_31 (by decide) sh115 rfl) ?_
  refine ex_s (fun _ => ev_iconst dX12_restore_34 ic0) ?_
  refine ex_s (fun _ => ev_sipush (v := nI 158) dX12_restore_35 (by decide)) ?_
  refine ex_s (fun _ => ev_copy aX12_46 dX12_restore_38 rfl rfl rfl (by decide) (by decide) sh118 sh116 (by omega) (by omega) rfl) ?_
  refine ex_s (fun _ => ev_aload_n dX12_restore_41 rfl) ?_
  refine ex_s (fun _ => ev_iconst dX12_restore_42 ic0) ?_
  refine ex_s (fun _ => ev_put fX12_52 dX12_restore_43 rfl rfl (by decide) sh115 rfl) ?_
  refine ex_s (fun _ => ev_aload_n dX12_restore_46 rfl) ?_
  refine ex_s (fun _ => ev_getR fX12_9 dX12_restore_47 (by decide) sh115 rfl) ?_
  refine ex_s (fun _ => ev_iconst dX12_restore_50 ic0) ?_
  refine ex_s (fun _ => ev_iaload dX12_restore_51 rfl (by omega) (by decide) sh116) ?_
  refine ex_s (fun _ => ev_top hr.1) ?_
  exact ⟨_, _, (by exact ⟨_, rfl, fun _ => rfl, rfl, ⟨⟨hr, hv.2.2⟩, g2, ⟨rfl, Nat.zero_le _, fun i V hV => (by have hV : ([] : List ST)[i]? = some V := hV; rw [List.getElem?_nil] at hV; cases hV)⟩, g4, g5, g6, g7, g8⟩, frG_cs (frG_cs (frG_cs frG_rf (by decide) _) (by decide) _) (by decide) _⟩), ev_iret dX12_restore_52 rfl rfl rfl rfl⟩
theorem gX12_restore {G : GX} {w : WS} {A : AS} (h : mX A w) : ∃ o w2, pMo (spRest A) w o w2 ∧ Big G 9 0 mX12_restore [.ref 115] w o w2 := by
  unfold spRest
  cases e : aV A with
  | none => exact gX12_restore_n h e
  | some T =>
    have q := gX12_restore_y (G := G) h e
    rw [e] at q
    exact q
