/-! walks to an outcome that the walk itself finds -/
def Ex (G : GX) (d b : Nat) (M : MT) (pc : Nat) (ls : List (Option Value)) (st : List Value) (w : WS) (P : OT → WS → Prop) : Prop := ∃ o w2, P o w2 ∧ Ev G d b M pc ls st w (zu_ G o w2)
theorem ex_s {G : GX} {d b : Nat} {M : MT} {pc : Nat} {ls : List (Option Value)} {st : List Value} {w : WS} {pc2 : Nat} {ls2 : List (Option Value)} {st2 : List Value} {w2 : WS} {P : OT → WS → Prop} (f : ∀ Z, Ev G d b M pc2 ls2 st2 w2 Z → Ev G d b M pc ls st w Z) (h : Ex G d b M pc2 ls2 st2 w2 P) : Ex G d b M pc ls st w P := by
  obtain ⟨o, w3, hp, hE⟩ := h
  exact ⟨o, w3, hp, f _ hE⟩
theorem ex_bp {G : GX} {d b : Nat} {M : MT} {pc : Nat} {ls : List (Option Value)} {st : List Value} {w : WS} {p1 p2 : Nat} {l1 l2 : List (Option Value)} {s1 s2 : List Value} {w1 w2 : WS} {P : OT → WS → Prop} {C : Prop} (f : ∀ Z, (C → Ev G d b M p1 l1 s1 w1 Z) → (¬ C → Ev G d b M p2 l2 s2 w2 Z) → Ev G d b M pc ls st w Z) (h1 : C → Ex G d b M p1 l1 s1 w1 P) (h2 : ¬ C → Ex G d b M p2 l2 s2 w2 P) : Ex G d b M pc ls st w P := by
  by_cases h : C
  · obtain ⟨o, w3, hp, hE⟩ := h1 h
    exact ⟨o, w3, hp, f _ (fun _ => hE) (fun q => absurd h q)⟩
  · obtain ⟨o, w3, hp, hE⟩ := h2 h
    exact ⟨o, w3, hp, f _ (fun q => absurd q h) (fun _ => hE)⟩
theorem ex_bn {G : GX} {d b : Nat} {M : MT} {pc : Nat} {ls : List (Option Value)} {st : List Value} {w : WS} {p1 p2 : Nat} {l1 l2 : List (Option Value)} {s1 s2 : List Value} {w1 w2 : WS} {P : OT → WS → Prop} {C : Prop} (f : ∀ Z, (¬ C → Ev G d b M p1 l1 s1 w1 Z) → (C → Ev G d b M p2 l2 s2 w2 Z) → Ev G d b M pc ls st w Z) (h1 : ¬ C → Ex G d b M p1 l1 s1 w1 P) (h2 : C → Ex G d b M p2 l2 s2 w2 P) : Ex G d b M pc ls st w P := by
  by_cases h : C
  · obtain ⟨o, w3, hp, hE⟩ := h2 h
    exact ⟨o, w3, hp, f _ (fun q => absurd h q) (fun _ => hE)⟩
  · obtain ⟨o, w3, hp, hE⟩ := h1 h
    exact ⟨o, w3, hp, f _ (fun _ => hE) (fun q => absurd q h)⟩
theorem ex_b0 {G : GX} {d b : Nat} {M : MT} {pc : Nat} {ls : List (Option Value)} {st : List Value} {w : WS} {p1 p2 : Nat} {l1 l2 : List (Option Value)} {s1 s2 : List Value} {w1 w2 : WS} {P : OT → WS → Prop} {x : Bool} (f : ∀ Z, (x = false → Ev G d b M p1 l1 s1 w1 Z) → (x = true → Ev G d b M p2 l2 s2 w2 Z) → Ev G d b M pc ls st w Z) (h1 : x = false → Ex G d b M p1 l1 s1 w1 P) (h2 : x = true → Ex G d b M p2 l2 s2 w2 P) : Ex G d b M pc ls st w P := by
  cases x with
  | false =>
    obtain ⟨o, w3, hp, hE⟩ := h1 rfl
    exact ⟨o, w3, hp, f _ (fun _ => hE) (fun q => Bool.noConfusion q)⟩
  | true =>
    obtain ⟨o, w3, hp, hE⟩ := h2 rfl
    exact ⟨o, w3, hp, f _ (fun q => Bool.noConfusion q) (fun _ => hE)⟩
theorem ex_b1 {G : GX} {d b : Nat} {M : MT} {pc : Nat} {ls : List (Option Value)} {st : List Value} {w : WS} {p1 p2 : Nat} {l1 l2 : List (Option Value)} {s1 s2 : List Value} {w1 w2 : WS} {P : OT → WS → Prop} {x : Bool} (f : ∀ Z, (x = true → Ev G d b M p1 l1 s1 w1 Z) → (x = false → Ev G d b M p2 l2 s2 w2 Z) → Ev G d b M pc ls st w Z) (h1 : x = true → Ex G d b M p1 l1 s1 w1 P) (h2 : x = false → Ex G d b M p2 l2 s2 w2 P) : Ex G d b M pc ls st w P := by
  cases x with
  | true =>
    obtain ⟨o, w3, hp, hE⟩ := h1 rfl
    exact ⟨o, w3, hp, f _ (fun _ => hE) (fun q => Bool.noConfusion q)⟩
  | false =>
    obtain ⟨o, w3, hp, hE⟩ := h2 rfl
    exact ⟨o, w3, hp, f _ (fun q => Bool.noConfusion q) (fun _ => hE)⟩
theorem bx_of {G : GX} {d b : Nat} {M : MT} {args : List Value} {w : WS} {P : OT → WS → Prop} (hy : plainName M.1.cls = true) (hn : (lg_sl (args.map (cv_ G))).length ≤ M.2.2.1) (K : Ex G d b M 0 (en_ M.2.2.1 args) [] w P) : ∃ o w2, P o w2 ∧ Big G d b M args w o w2 := by
  obtain ⟨o, w2, hp, hE⟩ := K
  exact ⟨o, w2, hp, big_of hy hn hE⟩
/-- nothing changes but in these cells -/
def frL (L : List Nat) (w w2 : WS) : Prop := (∀ k, k ∉ L → w2.1 k = w.1 k) ∧ w2.2 = w.2
theorem frL_rf {L : List Nat} {w : WS} : frL L w w := ⟨fun _ _ => rfl, rfl⟩
theorem frL_tr {L : List Nat} {w w1 w2 : WS} (h : frL L w w1) (h2 : frL L w1 w2) : frL L w w2 := ⟨fun k hk => (h2.1 k hk).trans (h.1 k hk), h2.2.trans h.2⟩
theorem frL_cs {L : List Nat} {w w1 : WS} (h : frL L w w1) {k : Nat} (hk : k ∈ L) (f : Nat → Int32) : frL L w (cs_ w1 k f) := ⟨fun j hj => (cs_ne w1 f (fun q => hj (by rw [q]; exact hk))).trans (h.1 j hj), h.2⟩
theorem frL_mo {L L2 : List Nat} {w w2 : WS} (h : frL L w w2) (hs : ∀ k, k ∈ L → k ∈ L2) : frL L2 w w2 := ⟨fun k hk => h.1 k (fun q => hk (hs k q)), h.2⟩
theorem frL_1 {w w2 : WS} (h : fr1 w w2) : frL [1, 2, 3, 4, 5, 6, 7, 8, 9, 10, 11] w w2 := ⟨fun k hk => h.1 k (by
  rcases Nat.lt_or_ge k 1 with q | q
  · exact Or.inl q
  · right
    rcases Nat.lt_or_ge 11 k with q2 | q2
    · exact q2
    · exfalso
      apply hk
      simp only [List.mem_cons, List.mem_nil_iff, or_false]
      omega), h.2⟩
theorem pC_nar {q : Nat} (h : q < 65536) : vp_nar .char (nI q) = nI q := by
  unfold vp_nar
  rw [(pk_charN h).1]
theorem pC_i2c {q : Nat} (h : q < 65536) : ((nI q).toUInt32 % 65536).toInt32 = nI q := by
  rw [pk_char, pk_tn (by omega), Nat.mod_eq_of_lt h]
/-! reasons, lines -/
def wKc (w : WS) : WS := cs_ w 109 (upd (w.1 109) 2 (nI 0))
def wKa (w : WS) (n : Nat) (x y : Int32) : WS := cs_ (cs_ (cs_ w 110 (upd (w.1 110) n x)) 111 (upd (w.1 111) n y)) 109 (upd (w.1 109) 2 (nI (n + 1)))
def wPut (w : WS) (K n : Nat) (x : Int32) : WS := cs_ (cs_ w (K + 1) (upd (w.1 (K + 1)) n x)) K (upd (w.1 K) 1 (nI (n + 1)))
set_option maxRecDepth 4000 in
theorem qX8_clear {G : GX} {w : WS} : Big G 1 0 mX8_clear [.ref 109] w (.inl none) (wKc w) := by
  refine big_of (by decide +kernel) (Nat.le_of_ble_eq_true rfl) ?_
  show Ev G 1 0 mX8_clear 0 [some (.ref 109)] [] w _
  refine ev_aload_n dX8_clear_0 rfl ?_
  refine ev_iconst dX8_clear_1 ic0 ?_
  refine ev_put fX8_18 dX8_clear_2 rfl rfl (by decide) sh109 rfl ?_
  exact ev_vret dX8_clear_5 rfl rfl rfl
set_option maxRecDepth 4000 in
theorem qX8_add {G : GX} {w : WS} {n : Nat} {x y : Int32} (hn : w.1 109 2 = nI n) (h3 : n < 3) : Big G 1 0 mX8_add [.ref 109, .int x, .int y] w (.inl none) (wKa w n x y) := by
  refine big_of (by decide +kernel) (Nat.le_of_ble_eq_true rfl) ?_
  show Ev G 1 0 mX8_add 0 [some (.ref 109), some (.int x), some (.int y)] [] w _
  refine ev_aload_n dX8_add_0 rfl ?_
  refine ev_getI fX8_18 dX8_add_1 (by decide) sh109 rfl ?_
  refine ev_top hn ?_
  refine ev_if_lt_f (tgt := 45) dX8_add_4 (by decide) (nI_pos (by omega)) ?_
  refine ev_aload_n dX8_add_7 rfl ?_
  refine ev_getI fX8_18 dX8_add_8 (by decide) sh109 rfl ?_
  refine ev_top hn ?_
  refine ev_iconst dX8_add_11 ic3 ?_
  refine ev_icmp_ge_f (tgt := 45) dX8_add_12 (by decide) (nI_ge (by omega) (by decide)) ?_
  refine ev_aload_n dX8_add_15 rfl ?_
  refine ev_getR fX8_9 dX8_add_16 (by decide) sh109 rfl ?_
  refine ev_aload_n dX8_add_19 rfl ?_
  refine ev_getI fX8_18 dX8_add_20 (by decide) sh109 rfl ?_
  refine ev_top hn ?_
  refine ev_iload_n dX8_add_23 rfl ?_
  refine ev_iastore dX8_add_24 rfl (by omega) rfl (by decide) sh110 ?_
  refine ev_aload_n dX8_add_25 rfl ?_
  refine ev_getR fX8_15 dX8_add_26 (by decide) sh109 rfl ?_
  refine ev_aload_n dX8_add_29 rfl ?_
  refine ev_getI fX8_18 dX8_add_30 (by decide) sh109 rfl ?_
  refine ev_top hn ?_
  refine ev_iload_n dX8_add_33 rfl ?_
  refine ev_iastore dX8_add_34 rfl (by omega) rfl (by decide) sh111 ?_
  refine ev_aload_n dX8_add_35 rfl ?_
  refine ev_dup dX8_add_36 rfl ?_
  refine ev_getI fX8_18 dX8_add_37 (by decide) sh109 rfl ?_
  refine ev_top hn ?_
  refine ev_iconst dX8_add_40 ic1 ?_
  refine ev_iadd dX8_add_41 ?_
  refine ev_top (nI_add _ _) ?_
  refine ev_put fX8_18 dX8_add_42 rfl rfl (by decide) sh109 rfl ?_
  exact ev_vret dX8_add_45 rfl rfl rfl
set_option maxRecDepth 4000 in
theorem qX9_clear_104 {G : GX} {w : WS} : Big G 1 0 mX9_clear [.ref 104] w (.inl none) (cs_ w 104 (upd (w.1 104) 1 (nI 0))) := by
  refine big_of (by decide +kernel) (Nat.le_of_ble_eq_true rfl) ?_
  show Ev G 1 0 mX9_clear 0 [some (.ref 104)] [] w _
  refine ev_aload_n dX9_clear_0 rfl ?_
  refine ev_iconst dX9_clear_1 ic0 ?_
  refine ev_put fX9_15 dX9_clear_2 rfl rfl (by decide) sh104 rfl ?_
  exact ev_vret dX9_clear_5 rfl rfl rfl
set_option maxRecDepth 4000 in
theorem qX9_put_104 {G : GX} {w : WS} {n : Nat} {x : Int32} (hn : w.1 104 1 = nI n) (h6 : n < 60) (hx : vp_nar .char x = x) : Big G 1 0 mX9_put [.ref 104, .int x] w (.inl none) (wPut w 104 n x) := by
  refine big_of (by decide +kernel) (Nat.le_of_ble_eq_true rfl) ?_
  show Ev G 1 0 mX9_put 0 [some (.ref 104), some (.int x)] [] w _
  refine ev_aload_n dX9_put_0 rfl ?_
  refine ev_getI fX9_15 dX9_put_1 (by decide) sh104 rfl ?_
  refine ev_top hn ?_
  refine ev_if_lt_f (tgt := 36) dX9_put_4 (by decide) (nI_pos (by omega)) ?_
  refine ev_aload_n dX9_put_7 rfl ?_
  refine ev_getI fX9_15 dX9_put_8 (by decide) sh104 rfl ?_
  refine ev_top hn ?_
  refine ev_bipush (v := nI 60) dX9_put_11 (by decide) ?_
  refine ev_icmp_ge_f (tgt := 36) dX9_put_13 (by decide) (nI_ge (by omega) (by decide)) ?_
  refine ev_aload_n dX9_put_16 rfl ?_
  refine ev_getR fX9_9 dX9_put_17 (by decide) sh104 rfl ?_
  refine ev_aload_n dX9_put_20 rfl ?_
  refine ev_getI fX9_15 dX9_put_21 (by decide) sh104 rfl ?_
  refine ev_top hn ?_
  refine ev_iload_n dX9_put_24 rfl ?_
  refine ev_castore dX9_put_25 rfl (by omega) hx (by decide) sh105 ?_
  refine ev_aload_n dX9_put_26 rfl ?_
  refine ev_dup dX9_put_27 rfl ?_
  refine ev_getI fX9_15 dX9_put_28 (by decide) sh104 rfl ?_
  refine ev_top hn ?_
  refine ev_iconst dX9_put_31 ic1 ?_
  refine ev_iadd dX9_put_32 ?_
  refine ev_top (nI_add _ _) ?_
  refine ev_put fX9_15 dX9_put_33 rfl rfl (by decide) sh104 rfl ?_
  exact ev_vret dX9_put_36 rfl rfl rfl
set_option maxRecDepth 4000 in
theorem qX9_signAt_104y {G : GX} {w : WS} {n i : Nat} (hn : w.1 104 1 = nI n) (h6 : n ≤ 60) (hi : i < n) : Big G 1 0 mX9_signAt [.ref 104, .int (nI i)] w (.inl (some (.int (w.1 105 i)))) w := by
  refine big_of (by decide +kernel) (Nat.le_of_ble_eq_true rfl) ?_
  show Ev G 1 0 mX9_signAt 0 [some (.ref 104), some (.int (nI i))] [] w _
  refine ev_iload_n dX9_signAt_0 rfl ?_
  refine ev_if_lt_f (tgt := 27) dX9_signAt_1 (by decide) (nI_pos (by omega)) ?_
  refine ev_iload_n dX9_signAt_4 rfl ?_
  refine ev_aload_n dX9_signAt_5 rfl ?_
  refine ev_getI fX9_15 dX9_signAt_6 (by decide) sh104 rfl ?_
  refine ev_top hn ?_
  refine ev_icmp_ge_f (tgt := 27) dX9_signAt_9 (by decide) (nI_ge (by omega) (by omega)) ?_
  refine ev_iload_n dX9_signAt_12 rfl ?_
  refine ev_bipush (v := nI 60) dX9_signAt_13 (by decide) ?_
  refine ev_icmp_ge_f (tgt := 27) dX9_signAt_15 (by decide) (nI_ge (by omega) (by decide)) ?_
  refine ev_aload_n dX9_signAt_18 rfl ?_
  refine ev_getR fX9_9 dX9_signAt_19 (by decide) sh104 rfl ?_
  refine ev_iload_n dX9_signAt_22 rfl ?_
  refine ev_caload dX9_signAt_23 rfl (by omega) (by decide) sh105 ?_
  refine ev_goto (tgt := 28) dX9_signAt_24 (by decide) ?_
  exact ev_iret dX9_signAt_28 rfl rfl rfl rfl
set_option maxRecDepth 4000 in
theorem qX9_signAt_104n {G : GX} {w : WS} {n : Nat} {x : Int32} (hn : w.1 104 1 = nI n) (hx : out_ n x) : Big G 1 0 mX9_signAt [.ref 104, .int x] w (.inl (some (.int (-1)))) w := by
  refine big_of (by decide +kernel) (Nat.le_of_ble_eq_true rfl) ?_
  show Ev G 1 0 mX9_signAt 0 [some (.ref 104), some (.int x)] [] w _
  refine ev_iload_n dX9_signAt_0 rfl ?_
  refine ev_if_lt (tgt := 27) dX9_signAt_1 (by decide) (fun hc1 => ?_) (fun hc1 => ?_)
  · refine ev_iconst dX9_signAt_27 icm1 ?_
    exact ev_iret dX9_signAt_28 rfl rfl rfl rfl
  · refine ev_iload_n dX9_signAt_4 rfl ?_
    refine ev_aload_n dX9_signAt_5 rfl ?_
    refine ev_getI fX9_15 dX9_signAt_6 (by decide) sh104 rfl ?_
    refine ev_top hn ?_
    refine ev_icmp_ge_t (tgt := 27) dX9_signAt_9 (by decide) (hx.resolve_left hc1) ?_
    refine ev_iconst dX9_signAt_27 icm1 ?_
    exact ev_iret dX9_signAt_28 rfl rfl rfl rfl
set_option maxRecDepth 4000 in
theorem qX9_clear_107 {G : GX} {w : WS} : Big G 1 0 mX9_clear [.ref 107] w (.inl none) (cs_ w 107 (upd (w.1 107) 1 (nI 0))) := by
  refine big_of (by decide +kernel) (Nat.le_of_ble_eq_true rfl) ?_
  show Ev G 1 0 mX9_clear 0 [some (.ref 107)] [] w _
  refine ev_aload_n dX9_clear_0 rfl ?_
  refine ev_iconst dX9_clear_1 ic0 ?_
  refine ev_put fX9_15 dX9_clear_2 rfl rfl (by decide) sh107 rfl ?_
  exact ev_vret dX9_clear_5 rfl rfl rfl
set_option maxRecDepth 4000 in
theorem qX9_put_107 {G : GX} {w : WS} {n : Nat} {x : Int32} (hn : w.1 107 1 = nI n) (h6 : n < 60) (hx : vp_nar .char x = x) : Big G 1 0 mX9_put [.ref 107, .int x] w (.inl none) (wPut w 107 n x) := by
  refine big_of (by decide +kernel) (Nat.le_of_ble_eq_true rfl) ?_
  show Ev G 1 0 mX9_put 0 [some (.ref 107), some (.int x)] [] w _
  refine ev_aload_n dX9_put_0 rfl ?_
  refine ev_getI fX9_15 dX9_put_1 (by decide) sh107 rfl ?_
  refine ev_top hn ?_
  refine ev_if_lt_f (tgt := 36) dX9_put_4 (by decide) (nI_pos (by omega)) ?_
  refine ev_aload_n dX9_put_7 rfl ?_
  refine ev_getI fX9_15 dX9_put_8 (by decide) sh107 rfl ?_
  refine ev_top hn ?_
  refine ev_bipush (v := nI 60) dX9_put_11 (by decide) ?_
  refine ev_icmp_ge_f (tgt := 36) dX9_put_13 (by decide) (nI_ge (by omega) (by decide)) ?_
  refine ev_aload_n dX9_put_16 rfl ?_
  refine ev_getR fX9_9 dX9_put_17 (by decide) sh107 rfl ?_
  refine ev_aload_n dX9_put_20 rfl ?_
  refine ev_getI fX9_15 dX9_put_21 (by decide) sh107 rfl ?_
  refine ev_top hn ?_
  refine ev_iload_n dX9_put_24 rfl ?_
  refine ev_castore dX9_put_25 rfl (by omega) hx (by decide) sh108 ?_
  refine ev_aload_n dX9_put_26 rfl ?_
  refine ev_dup dX9_put_27 rfl ?_
  refine ev_getI fX9_15 dX9_put_28 (by decide) sh107 rfl ?_
  refine ev_top hn ?_
  refine ev_iconst dX9_put_31 ic1 ?_
  refine ev_iadd dX9_put_32 ?_
  refine ev_top (nI_add _ _) ?_
  refine ev_put fX9_15 dX9_put_33 rfl rfl (by decide) sh107 rfl ?_
  exact ev_vret dX9_put_36 rfl rfl rfl
set_option maxRecDepth 4000 in
theorem qX9_signAt_107y {G : GX} {w : WS} {n i : Nat} (hn : w.1 107 1 = nI n) (h6 : n ≤ 60) (hi : i < n) : Big G 1 0 mX9_signAt [.ref 107, .int (nI i)] w (.inl (some (.int (w.1 108 i)))) w := by
  refine big_of (by decide +kernel) (Nat.le_of_ble_eq_true rfl) ?_
  show Ev G 1 0 mX9_signAt 0 [some (.ref 107), some (.int (nI i))] [] w _
  refine ev_iload_n dX9_signAt_0 rfl ?_
  refine ev_if_lt_f (tgt := 27) dX9_signAt_1 (by decide) (nI_pos (by omega)) ?_
  refine ev_iload_n dX9_signAt_4 rfl ?_
  refine ev_aload_n dX9_signAt_5 rfl ?_
  refine ev_getI fX9_15 dX9_signAt_6 (by decide) sh107 rfl ?_
  refine ev_top hn ?_
  refine ev_icmp_ge_f (tgt := 27) dX9_signAt_9 (by decide) (nI_ge (by omega) (by omega)) ?_
  refine ev_iload_n dX9_signAt_12 rfl ?_
  refine ev_bipush (v := nI 60) dX9_signAt_13 (by decide) ?_
  refine ev_icmp_ge_f (tgt := 27) dX9_signAt_15 (by decide) (nI_ge (by omega) (by decide)) ?_
  refine ev_aload_n dX9_signAt_18 rfl ?_
  refine ev_getR fX9_9 dX9_signAt_19 (by decide) sh107 rfl ?_
  refine ev_iload_n dX9_signAt_22 rfl ?_
  refine ev_caload dX9_signAt_23 rfl (by omega) (by decide) sh108 ?_
  refine ev_goto (tgt := 28) dX9_signAt_24 (by decide) ?_
  exact ev_iret dX9_signAt_28 rfl rfl rfl rfl
set_option maxRecDepth 4000 in
theorem qX9_signAt_107n {G : GX} {w : WS} {n : Nat} {x : Int32} (hn : w.1 107 1 = nI n) (hx : out_ n x) : Big G 1 0 mX9_signAt [.ref 107, .int x] w (.inl (some (.int (-1)))) w := by
  refine big_of (by decide +kernel) (Nat.le_of_ble_eq_true rfl) ?_
  show Ev G 1 0 mX9_signAt 0 [some (.ref 107), some (.int x)] [] w _
  refine ev_iload_n dX9_signAt_0 rfl ?_
  refine ev_if_lt (tgt := 27) dX9_signAt_1 (by decide) (fun hc1 => ?_) (fun hc1 => ?_)
  · refine ev_iconst dX9_signAt_27 icm1 ?_
    exact ev_iret dX9_signAt_28 rfl rfl rfl rfl
  · refine ev_iload_n dX9_signAt_4 rfl ?_
    refine ev_aload_n dX9_signAt_5 rfl ?_
    refine ev_getI fX9_15 dX9_signAt_6 (by decide) sh107 rfl ?_
    refine ev_top hn ?_
    refine ev_icmp_ge_t (tgt := 27) dX9_signAt_9 (by decide) (hx.resolve_left hc1) ?_
    refine ev_iconst dX9_signAt_27 icm1 ?_
    exact ev_iret dX9_signAt_28 rfl rfl rfl rfl
def wNum (w : WS) (n v : Nat) : WS := if v < 10 then wPut w 107 n (nI (48 + v)) else wPut (wPut w 107 n (nI (48 + v / 10))) 107 (n + 1) (nI (48 + v % 10))
set_option maxRecDepth 4000 in
theorem qX9_putNumber {G : GX} {w : WS} {n v : Nat} (hn : w.1 107 1 = nI n) (h6 : n + 1 < 60) (hv : v < 100) : Big G 2 0 mX9_putNumber [.ref 107, .int (nI v)] w (.inl none) (wNum w n v) := by
  refine big_of (by decide +kernel) (Nat.le_of_ble_eq_true rfl) ?_
  show Ev G 2 0 mX9_putNumber 0 [some (.ref 107), some (.int (nI v))] [] w _
  refine ev_iload_n dX9_putNumber_0 rfl ?_
  refine ev_bipush (v := nI 10) dX9_putNumber_1 (by decide) ?_
  refine ev_icmp_lt (tgt := 18) dX9_putNumber_3 (by decide) (fun hc3 => ?_) (fun hc3 => ?_)
  · have e3 : v < 10 := (pk_lt' (by omega) (by decide)).mp hc3
    refine ev_aload_n dX9_putNumber_18 rfl ?_
    refine ev_bipush (v := nI 48) dX9_putNumber_19 (by decide) ?_
    refine ev_iload_n dX9_putNumber_21 rfl ?_
    refine ev_bipush (v := nI 10) dX9_putNumber_22 (by decide) ?_
    refine ev_irem dX9_putNumber_24 (by decide) ?_
    refine ev_top (pk_rem (by omega) (by decide) (by decide)) ?_
    refine ev_iadd dX9_putNumber_25 ?_
    refine ev_top (nI_add _ _) ?_
    refine ev_i2c dX9_putNumber_26 (pC_i2c (by omega)) ?_
    refine ev_callV kX9_19 co107 (qX9_put_107 hn (by omega) (pC_nar (by omega))) dX9_putNumber_27 rfl (by decide) (by decide) rfl ?_
    exact ev_vret dX9_putNumber_30 rfl rfl (by unfold wNum; rw [if_pos e3, Nat.mod_eq_of_lt e3])
  · have e3 : ¬ v < 10 := fun q => hc3 ((pk_lt' (by omega) (by decide)).mpr q)
    refine ev_aload_n dX9_putNumber_6 rfl ?_
    refine ev_bipush (v := nI 48) dX9_putNumber_7 (by decide) ?_
    refine ev_iload_n dX9_putNumber_9 rfl ?_
    refine ev_bipush (v := nI 10) dX9_putNumber_10 (by decide) ?_
    refine ev_idiv dX9_putNumber_12 (by decide) ?_
    refine ev_top (pk_div (by omega) (by decide) (by decide)) ?_
    refine ev_iadd dX9_putNumber_13 ?_
    refine ev_top (nI_add _ _) ?_
    refine ev_i2c dX9_putNumber_14 (pC_i2c (by omega)) ?_
    refine ev_callV kX9_19 co107 (qX9_put_107 hn (by omega) (pC_nar (by omega))) dX9_putNumber_15 rfl (by decide) (by decide) rfl ?_
    refine ev_aload_n dX9_putNumber_18 rfl ?_
    refine ev_bipush (v := nI 48) dX9_putNumber_19 (by decide) ?_
    refine ev_iload_n dX9_putNumber_21 rfl ?_
    refine ev_bipush (v := nI 10) dX9_putNumber_22 (by decide) ?_
    refine ev_irem dX9_putNumber_24 (by decide) ?_
    refine ev_top (pk_rem (by omega) (by decide) (by decide)) ?_
    refine ev_iadd dX9_putNumber_25 ?_
    refine ev_top (nI_add _ _) ?_
    refine ev_i2c dX9_putNumber_26 (pC_i2c (by omega)) ?_
    refine ev_callV kX9_19 co107 (qX9_put_107 (w := wPut w 107 n (nI (48 + v / 10))) (n := n + 1) rfl (by omega) (pC_nar (by omega))) dX9_putNumber_27 rfl (by decide) (by decide) rfl ?_
    exact ev_vret dX9_putNumber_30 rfl rfl (by unfold wNum; rw [if_neg e3])
def cmp_ (x y : Int32) : Int32 := if x < y then -1 else if x = y then 0 else 1
set_option maxRecDepth 4000 in
theorem qJ6_compare {G : GX} {w : WS} {x y : Int32} : Big G 1 0 mJ6_compare_7cf53 [.int x, .int y] w (.inl (some (.int (cmp_ x y)))) w := by
  refine big_of (by decide +kernel) (Nat.le_of_ble_eq_true rfl) ?_
  show Ev G 1 0 mJ6_compare_7cf53 0 [some (.int x), some (.int y)] [] w _
  refine ev_iload_n dJ6_compare_7cf53_0 rfl ?_
  refine ev_iload_n dJ6_compare_7cf53_1 rfl ?_
  refine ev_icmp_ge (tgt := 9) dJ6_compare_7cf53_2 (by decide) (fun hc2 => ?_) (fun hc2 => ?_)
  · have e2 : ¬ x < y := Int32.not_lt.mpr hc2
    refine ev_iload_n dJ6_compare_7cf53_9 rfl ?_
    refine ev_iload_n dJ6_compare_7cf53_10 rfl ?_
    refine ev_icmp_ne (tgt := 18) dJ6_compare_7cf53_11 (by decide) (fun hc11 => ?_) (fun hc11 => ?_)
    · refine ev_iconst dJ6_compare_7cf53_18 ic1 ?_
      exact ev_iret dJ6_compare_7cf53_19 rfl rfl (by unfold cmp_; rw [if_neg e2, if_neg hc11]; rfl) rfl
    · refine ev_iconst dJ6_compare_7cf53_14 ic0 ?_
      refine ev_goto (tgt := 19) dJ6_compare_7cf53_15 (by decide) ?_
      exact ev_iret dJ6_compare_7cf53_19 rfl rfl (by unfold cmp_; rw [if_neg e2, if_pos hc11]; rfl) rfl
  · have e2 : x < y := Int32.not_le.mp hc2
    refine ev_iconst dJ6_compare_7cf53_5 icm1 ?_
    refine ev_goto (tgt := 19) dJ6_compare_7cf53_6 (by decide) ?_
    exact ev_iret dJ6_compare_7cf53_19 rfl rfl (by unfold cmp_; rw [if_pos e2]) rfl
/-! charts copied -/
/-- of chart i: its first n fields are those of chart j -/
def cpp (w : WS) (i j n : Nat) : WS := (fun k s => if k = 1 + 11 * i then (if 10 ≤ s ∧ s < n then w.1 (1 + 11 * j) s else w.1 k s) else if 1 + 11 * i < k ∧ k < 2 + 11 * i + n ∧ k < 12 + 11 * i ∧ s < chartLens.getD (k - 2 - 11 * i) 0 then w.1 (k - 11 * i + 11 * j) s else w.1 k s, w.2)
theorem cpp_0 (w : WS) (i j : Nat) : w = cpp w i j 0 := by
  apply ws_eq
  · intro k
    funext s
    simp only [cpp]
    by_cases h : k = 1 + 11 * i
    · rw [if_pos h, if_neg (by omega)]
    · rw [if_neg h, if_neg (by omega)]
  · rfl
theorem cpp_c {w : WS} {i j n L : Nat} (hij : i ≠ j) (hn : n < 10) (hL : chartLens.getD n 0 = L) : cs_ (cpp w i j n) (1 + 11 * i + (n + 1)) (va_cpy ((cpp w i j n).1 (1 + 11 * j + (n + 1))) ((cpp w i j n).1 (1 + 11 * i + (n + 1))) 0 0 L) = cpp w i j (n + 1) := by
  subst hL
  apply ws_eq
  · intro k
    funext s
    by_cases h : k = 1 + 11 * i + (n + 1)
    · subst h
      rw [cs_same]
      simp only [cpp, va_cpy]
      rw [if_neg (show ¬ 1 + 11 * i + (n + 1) = 1 + 11 * i by omega), if_neg (show ¬ 1 + 11 * i + (n + 1) = 1 + 11 * i by omega), show 1 + 11 * i + (n + 1) - 2 - 11 * i = n by omega]
      by_cases hs : s < chartLens.getD n 0
      · rw [if_pos (by omega), if_neg (by omega), if_neg (by omega), if_pos (by omega)]
        rw [show 0 + (s - 0) = s by omega, show 1 + 11 * i + (n + 1) - 11 * i + 11 * j = 1 + 11 * j + (n + 1) by omega]
      · rw [if_neg (by omega), if_neg (by omega), if_neg (by omega)]
    · rw [cs_ne _ _ h]
      simp only [cpp]
      by_cases h2 : k = 1 + 11 * i
      · rw [if_pos h2, if_pos h2]
        by_cases h3 : 10 ≤ s ∧ s < n
        · omega
        · rw [if_neg h3, if_neg (by omega)]
      · rw [if_neg h2, if_neg h2]
        by_cases h3 : 1 + 11 * i < k ∧ k < 2 + 11 * i + n ∧ k < 12 + 11 * i ∧ s < chartLens.getD (k - 2 - 11 * i) 0
        · rw [if_pos h3, if_pos ⟨h3.1, by omega, h3.2.2⟩]
        · rw [if_neg h3, if_neg (fun q => h3 ⟨q.1, by omega, q.2.2⟩)]
  · rfl
theorem cpp_p {w : WS} {i j n : Nat} (hij : i ≠ j) (hn : 10 ≤ n) : cs_ (cpp w i j n) (1 + 11 * i) (upd ((cpp w i j n).1 (1 + 11 * i)) n ((cpp w i j n).1 (1 + 11 * j) n)) = cpp w i j (n + 1) := by
  apply ws_eq
  · intro k
    funext s
    by_cases h : k = 1 + 11 * i
    · subst h
      rw [cs_same]
      simp only [cpp, upd, if_true]
      by_cases hs : s = n
      · subst hs
        rw [if_pos rfl, if_neg (by omega), if_neg (by omega), if_pos (by omega)]
      · rw [if_neg hs]
        by_cases h3 : 10 ≤ s ∧ s < n
        · rw [if_pos h3, if_pos (by omega)]
        · rw [if_neg h3, if_neg (by omega)]
    · rw [cs_ne _ _ h]
      simp only [cpp]
      rw [if_neg h, if_neg h]
      by_cases h3 : 1 + 11 * i < k ∧ k < 2 + 11 * i + n ∧ k < 12 + 11 * i ∧ s < chartLens.getD (k - 2 - 11 * i) 0
      · rw [if_pos h3, if_pos ⟨h3.1, by omega, h3.2.2⟩]
      · rw [if_neg h3, if_neg (fun q => h3 ⟨q.1, by omega, q.2.2⟩)]
  · rfl
abbrev cpW (w : WS) (i j : Nat) : WS := cpp w i j 17
theorem cpW_a {w : WS} {i j m s : Nat} (hm : m < 10) (hs : s < chartLens.getD m 0) : (cpW w i j).1 (1 + 11 * i + (m + 1)) s = w.1 (1 + 11 * j + (m + 1)) s := by
  simp only [cpp]
  rw [if_neg (by omega), show 1 + 11 * i + (m + 1) - 2 - 11 * i = m by omega, if_pos (by omega), show 1 + 11 * i + (m + 1) - 11 * i + 11 * j = 1 + 11 * j + (m + 1) by omega]
theorem cpW_o {w : WS} {i j s : Nat} (hs : 10 ≤ s) (h2 : s < 17) : (cpW w i j).1 (1 + 11 * i) s = w.1 (1 + 11 * j) s := by
  simp only [cpp, if_true]
  rw [if_pos (by omega)]
theorem cpW_n {w : WS} {i j k : Nat} (h : k < 1 + 11 * i ∨ 11 + 11 * i < k) : (cpW w i j).1 k = w.1 k := by
  funext s
  simp only [cpp]
  rw [if_neg (by omega), if_neg (by omega)]
theorem cpW_2 {w : WS} {i j : Nat} : (cpW w i j).2 = w.2 := rfl
theorem ch_cp {S : ST} {w : WS} {i j : Nat} (h : chA S w (1 + 11 * j)) (hok : okS S) : chA S (cpW w i j) (1 + 11 * i) := by
  obtain ⟨g1, g2, g3, g4, g5, g6, g7⟩ := h
  have h4 := hok.2.1.1
  have h5 := hok.2.2.1.1
  refine ⟨fun c hc => ?_, fun k hk => ⟨?_, ?_, ?_⟩, ?_, fun r hr => ⟨?_, ?_, fun p hp => ?_⟩, ?_, fun r hr => ⟨?_, ?_, ?_⟩, ?_⟩
  · exact (cpW_a (m := 0) (by decide) hc).trans (g1 c hc)
  · exact (cpW_a (m := 1) (by decide) hk).trans (g2 k hk).1
  · exact (cpW_a (m := 2) (by decide) hk).trans (g2 k hk).2.1
  · exact (cpW_a (m := 3) (by decide) hk).trans (g2 k hk).2.2
  · exact (cpW_o (by decide) (by decide)).trans g3
  · exact (cpW_a (m := 5) (by decide) (show r < 4 by omega)).trans (g4 r hr).1
  · exact (cpW_a (m := 6) (by decide) (show r < 4 by omega)).trans (g4 r hr).2.1
  · have := (hok.2.1.2 r hr).2.2.1
    exact (cpW_a (m := 4) (by decide) (show 13 * r + p < 52 by omega)).trans ((g4 r hr).2.2 p hp)
  · exact (cpW_o (by decide) (by decide)).trans g5
  · exact (cpW_a (m := 7) (by decide) (show r < 5 by omega)).trans (g6 r hr).1
  · exact (cpW_a (m := 8) (by decide) (show r < 5 by omega)).trans (g6 r hr).2.1
  · exact (cpW_a (m := 9) (by decide) (show r < 5 by omega)).trans (g6 r hr).2.2
  · exact ⟨(cpW_o (by decide) (by decide)).trans g7.1, (cpW_o (by decide) (by decide)).trans g7.2.1, (cpW_o (by decide) (by decide)).trans g7.2.2.1, (cpW_o (by decide) (by decide)).trans g7.2.2.2.1, (cpW_o (by decide) (by decide)).trans g7.2.2.2.2⟩
/-- a chart whose cells stand as they were holds what it held -/
theorem ch_eq {S : ST} {w w2 : WS} {B : Nat} (h : chA S w B) (he : ∀ k, B ≤ k → k ≤ B + 10 → w2.1 k = w.1 k) : chA S w2 B := by
  unfold chA at h ⊢
  rw [he B (by omega) (by omega), he (B + 1) (by omega) (by omega), he (B + 2) (by omega) (by omega), he (B + 3) (by omega) (by omega), he (B + 4) (by omega) (by omega), he (B + 5) (by omega) (by omega), he (B + 6) (by omega) (by omega), he (B + 7) (by omega) (by omega), he (B + 8) (by omega) (by omega), he (B + 9) (by omega) (by omega), he (B + 10) (by omega) (by omega)]
  exact h
theorem ch_cpo {S : ST} {w : WS} {i j m : Nat} (h : chA S w (1 + 11 * m)) (hm : m ≠ i) : chA S (cpW w i j) (1 + 11 * m) := ch_eq h (fun k h1 h2 => cpW_n (by omega))
theorem shC0 {i : Nat} (h : i < 9) : shp (1 + 11 * i + 1) = .inr (0, 64) := shBA h (j := 0) (by decide)
theorem shC1 {i : Nat} (h : i < 9) : shp (1 + 11 * i + 2) = .inr (0, 4) := shBA h (j := 1) (by decide)
theorem shC2 {i : Nat} (h : i < 9) : shp (1 + 11 * i + 3) = .inr (0, 4) := shBA h (j := 2) (by decide)
theorem shC3 {i : Nat} (h : i < 9) : shp (1 + 11 * i + 4) = .inr (0, 4) := shBA h (j := 3) (by decide)
theorem shC4 {i : Nat} (h : i < 9) : shp (1 + 11 * i + 5) = .inr (0, 52) := shBA h (j := 4) (by decide)
theorem shC5 {i : Nat} (h : i < 9) : shp (1 + 11 * i + 6) = .inr (0, 4) := shBA h (j := 5) (by decide)
theorem shC6 {i : Nat} (h : i < 9) : shp (1 + 11 * i + 7) = .inr (0, 4) := shBA h (j := 6) (by decide)
theorem shC7 {i : Nat} (h : i < 9) : shp (1 + 11 * i + 8) = .inr (0, 5) := shBA h (j := 7) (by decide)
theorem shC8 {i : Nat} (h : i < 9) : shp (1 + 11 * i + 9) = .inr (0, 5) := shBA h (j := 8) (by decide)
theorem shC9 {i : Nat} (h : i < 9) : shp (1 + 11 * i + 10) = .inr (0, 5) := shBA h (j := 9) (by decide)
set_option maxRecDepth 4000 in
theorem qX1_copyFrom {G : GX} {w : WS} {i j : Nat} (hi : i < 9) (hj : j < 9) (hij : i ≠ j) : Big G 1 0 mX1_copyFrom [.ref (1 + 11 * i), .ref (1 + 11 * j)] w (.inl none) (cpW w i j) := by
  refine big_of (by decide +kernel) (Nat.le_of_ble_eq_true rfl) ?_
  show Ev G 1 0 mX1_copyFrom 0 [some (.ref (1 + 11 * i)), some (.ref (1 + 11 * j))] [] w _
  refine ev_w (cpp_0 w i j) ?_
  refine ev_aload_n dX1_copyFrom_0 rfl ?_
  refine ev_getR fX1_9 dX1_copyFrom_1 (by omega) (shB hj) rfl ?_
  refine ev_iconst dX1_copyFrom_4 ic0 ?_
  refine ev_aload_n dX1_copyFrom_5 rfl ?_
  refine ev_getR fX1_9 dX1_copyFrom_6 (by omega) (shB hi) rfl ?_
  refine ev_iconst dX1_copyFrom_9 ic0 ?_
  refine ev_bipush (v := nI 64) dX1_copyFrom_10 (by decide) ?_
  refine ev_copy aX1_52 dX1_copyFrom_12 rfl rfl rfl (by omega) (by omega) (shC0 hj) (shC0 hi) (by decide) (by decide) rfl ?_
  refine ev_w (cpp_c hij (n := 0) (by decide) rfl) ?_
  refine ev_aload_n dX1_copyFrom_15 rfl ?_
  refine ev_getR fX1_15 dX1_copyFrom_16 (by omega) (shB hj) rfl ?_
  refine ev_iconst dX1_copyFrom_19 ic0 ?_
  refine ev_aload_n dX1_copyFrom_20 rfl ?_
  refine ev_getR fX1_15 dX1_copyFrom_21 (by omega) (shB hi) rfl ?_
  refine ev_iconst dX1_copyFrom_24 ic0 ?_
  refine ev_iconst dX1_copyFrom_25 ic4 ?_
  refine ev_copy aX1_52 dX1_copyFrom_26 rfl rfl rfl (by omega) (by omega) (shC1 hj) (shC1 hi) (by decide) (by decide) rfl ?_
  refine ev_w (cpp_c hij (n := 1) (by decide) rfl) ?_
  refine ev_aload_n dX1_copyFrom_29 rfl ?_
  refine ev_getR fX1_18 dX1_copyFrom_30 (by omega) (shB hj) rfl ?_
  refine ev_iconst dX1_copyFrom_33 ic0 ?_
  refine ev_aload_n dX1_copyFrom_34 rfl ?_
  refine ev_getR fX1_18 dX1_copyFrom_35 (by omega) (shB hi) rfl ?_
  refine ev_iconst dX1_copyFrom_38 ic0 ?_
  refine ev_iconst dX1_copyFrom_39 ic4 ?_
  refine ev_copy aX1_52 dX1_copyFrom_40 rfl rfl rfl (by omega) (by omega) (shC2 hj) (shC2 hi) (by decide) (by decide) rfl ?_
  refine ev_w (cpp_c hij (n := 2) (by decide) rfl) ?_
  refine ev_aload_n dX1_copyFrom_43 rfl ?_
  refine ev_getR fX1_21 dX1_copyFrom_44 (by omega) (shB hj) rfl ?_
  refine ev_iconst dX1_copyFrom_47 ic0 ?_
  refine ev_aload_n dX1_copyFrom_48 rfl ?_
  refine ev_getR fX1_21 dX1_copyFrom_49 (by omega) (shB hi) rfl ?_
  refine ev_iconst dX1_copyFrom_52 ic0 ?_
  refine ev_iconst dX1_copyFrom_53 ic4 ?_
  refine ev_copy aX1_52 dX1_copyFrom_54 rfl rfl rfl (by omega) (by omega) (shC3 hj) (shC3 hi) (by decide) (by decide) rfl ?_
  refine ev_w (cpp_c hij (n := 3) (by decide) rfl) ?_
  refine ev_aload_n dX1_copyFrom_57 rfl ?_
  refine ev_getR fX1_24 dX1_copyFrom_58 (by omega) (shB hj) rfl ?_
  refine ev_iconst dX1_copyFrom_61 ic0 ?_
  refine ev_aload_n dX1_copyFrom_62 rfl ?_
  refine ev_getR fX1_24 dX1_copyFrom_63 (by omega) (shB hi) rfl ?_
  refine ev_iconst dX1_copyFrom_66 ic0 ?_
  refine ev_bipush (v := nI 52) dX1_copyFrom_67 (by decide) ?_
  refine ev_copy aX1_52 dX1_copyFrom_69 rfl rfl rfl (by omega) (by omega) (shC4 hj) (shC4 hi) (by decide) (by decide) rfl ?_
  refine ev_w (cpp_c hij (n := 4) (by decide) rfl) ?_
  refine ev_aload_n dX1_copyFrom_72 rfl ?_
  refine ev_getR fX1_27 dX1_copyFrom_73 (by omega) (shB hj) rfl ?_
  refine ev_iconst dX1_copyFrom_76 ic0 ?_
  refine ev_aload_n dX1_copyFrom_77 rfl ?_
  refine ev_getR fX1_27 dX1_copyFrom_78 (by omega) (shB hi) rfl ?_
  refine ev_iconst dX1_copyFrom_81 ic0 ?_
  refine ev_iconst dX1_copyFrom_82 ic4 ?_
  refine ev_copy aX1_52 dX1_copyFrom_83 rfl rfl rfl (by omega) (by omega) (shC5 hj) (shC5 hi) (by decide) (by decide) rfl ?_
  refine ev_w (cpp_c hij (n := 5) (by decide) rfl) ?_
  refine ev_aload_n dX1_copyFrom_86 rfl ?_
  refine ev_getR fX1_30 dX1_copyFrom_87 (by omega) (shB hj) rfl ?_
  refine ev_iconst dX1_copyFrom_90 ic0 ?_
  refine ev_aload_n dX1_copyFrom_91 rfl ?_
  refine ev_getR fX1_30 dX1_copyFrom_92 (by omega) (shB hi) rfl ?_
  refine ev_iconst dX1_copyFrom_95 ic0 ?_
  refine ev_iconst dX1_copyFrom_96 ic4 ?_
  refine ev_copy aX1_52 dX1_copyFrom_97 rfl rfl rfl (by omega) (by omega) (shC6 hj) (shC6 hi) (by decide) (by decide) rfl ?_
  refine ev_w (cpp_c hij (n := 6) (by decide) rfl) ?_
  refine ev_aload_n dX1_copyFrom_100 rfl ?_
  refine ev_getR fX1_33 dX1_copyFrom_101 (by omega) (shB hj) rfl ?_
  refine ev_iconst dX1_copyFrom_104 ic0 ?_
  refine ev_aload_n dX1_copyFrom_105 rfl ?_
  refine ev_getR fX1_33 dX1_copyFrom_106 (by omega) (shB hi) rfl ?_
  refine ev_iconst dX1_copyFrom_109 ic0 ?_
  refine ev_iconst dX1_copyFrom_110 ic5 ?_
  refine ev_copy aX1_52 dX1_copyFrom_111 rfl rfl rfl (by omega) (by omega) (shC7 hj) (shC7 hi) (by decide) (by decide) rfl ?_
  refine ev_w (cpp_c hij (n := 7) (by decide) rfl) ?_
  refine ev_aload_n dX1_copyFrom_114 rfl ?_
  refine ev_getR fX1_36 dX1_copyFrom_115 (by omega) (shB hj) rfl ?_
  refine ev_iconst dX1_copyFrom_118 ic0 ?_
  refine ev_aload_n dX1_copyFrom_119 rfl ?_
  refine ev_getR fX1_36 dX1_copyFrom_120 (by omega) (shB hi) rfl ?_
  refine ev_iconst dX1_copyFrom_123 ic0 ?_
  refine ev_iconst dX1_copyFrom_124 ic5 ?_
  refine ev_copy aX1_52 dX1_copyFrom_125 rfl rfl rfl (by omega) (by omega) (shC8 hj) (shC8 hi) (by decide) (by decide) rfl ?_
  refine ev_w (cpp_c hij (n := 8) (by decide) rfl) ?_
  refine ev_aload_n dX1_copyFrom_128 rfl ?_
  refine ev_getR fX1_39 dX1_copyFrom_129 (by omega) (shB hj) rfl ?_
  refine ev_iconst dX1_copyFrom_132 ic0 ?_
  refine ev_aload_n dX1_copyFrom_133 rfl ?_
  refine ev_getR fX1_39 dX1_copyFrom_134 (by omega) (shB hi) rfl ?_
  refine ev_iconst dX1_copyFrom_137 ic0 ?_
  refine ev_iconst dX1_copyFrom_138 ic5 ?_
  refine ev_copy aX1_52 dX1_copyFrom_139 rfl rfl rfl (by omega) (by omega) (shC9 hj) (shC9 hi) (by decide) (by decide) rfl ?_
  refine ev_w (cpp_c hij (n := 9) (by decide) rfl) ?_
  refine ev_aload_n dX1_copyFrom_142 rfl ?_
  refine ev_aload_n dX1_copyFrom_143 rfl ?_
  refine ev_getI fX1_58 dX1_copyFrom_144 (by omega) (shB hj) rfl ?_
  refine ev_put fX1_58 dX1_copyFrom_147 rfl rfl (by omega) (shB hi) rfl ?_
  refine ev_w (cpp_p hij (n := 10) (by decide)) ?_
  refine ev_aload_n dX1_copyFrom_150 rfl ?_
  refine ev_aload_n dX1_copyFrom_151 rfl ?_
  refine ev_getI fX1_61 dX1_copyFrom_152 (by omega) (shB hj) rfl ?_
  refine ev_put fX1_61 dX1_copyFrom_155 rfl rfl (by omega) (shB hi) rfl ?_
  refine ev_w (cpp_p hij (n := 11) (by decide)) ?_
  refine ev_aload_n dX1_copyFrom_158 rfl ?_
  refine ev_aload_n dX1_copyFrom_159 rfl ?_
  refine ev_getI fX1_42 dX1_copyFrom_160 (by omega) (shB hj) rfl ?_
  refine ev_put fX1_42 dX1_copyFrom_163 rfl rfl (by omega) (shB hi) rfl ?_
  refine ev_w (cpp_p hij (n := 12) (by decide)) ?_
  refine ev_aload_n dX1_copyFrom_166 rfl ?_
  refine ev_aload_n dX1_copyFrom_167 rfl ?_
  refine ev_getI fX1_64 dX1_copyFrom_168 (by omega) (shB hj) rfl ?_
  refine ev_put fX1_64 dX1_copyFrom_171 rfl rfl (by omega) (shB hi) rfl ?_
  refine ev_w (cpp_p hij (n := 13) (by decide)) ?_
  refine ev_aload_n dX1_copyFrom_174 rfl ?_
  refine ev_aload_n dX1_copyFrom_175 rfl ?_
  refine ev_getI fX1_67 dX1_copyFrom_176 (by omega) (shB hj) rfl ?_
  refine ev_put fX1_67 dX1_copyFrom_179 rfl rfl (by omega) (shB hi) rfl ?_
  refine ev_w (cpp_p hij (n := 14) (by decide)) ?_
  refine ev_aload_n dX1_copyFrom_182 rfl ?_
  refine ev_aload_n dX1_copyFrom_183 rfl ?_
  refine ev_getI fX1_70 dX1_copyFrom_184 (by omega) (shB hj) rfl ?_
  refine ev_put fX1_70 dX1_copyFrom_187 rfl rfl (by omega) (shB hi) rfl ?_
  refine ev_w (cpp_p hij (n := 15) (by decide)) ?_
  refine ev_aload_n dX1_copyFrom_190 rfl ?_
  refine ev_aload_n dX1_copyFrom_191 rfl ?_
  refine ev_getI fX1_73 dX1_copyFrom_192 (by omega) (shB hj) rfl ?_
  refine ev_put fX1_73 dX1_copyFrom_195 rfl rfl (by omega) (shB hi) rfl ?_
  refine ev_w (cpp_p hij (n := 16) (by decide)) ?_
  exact ev_vret dX1_copyFrom_198 rfl rfl rfl
set_option maxRecDepth 4000 in
theorem qX4_slot {G : GX} {w : WS} {o a : Nat} (ho : w.1 100 1 = nI o) (h6 : o < 6) (ha : a ≤ 6) : Big G 1 0 mX4_slot [.ref 100, .int (nI a)] w (.inl (some (.ref (1 + 11 * (3 + (o + a) % 6))))) w := by
  refine big_of (by decide +kernel) (Nat.le_of_ble_eq_true rfl) ?_
  show Ev G 1 0 mX4_slot 0 [some (.ref 100), some (.int (nI a)), none] [] w _
  refine ev_aload_n dX4_slot_0 rfl ?_
  refine ev_getI fX4_22 dX4_slot_1 (by decide) sh100 rfl ?_
  refine ev_top ho ?_
  refine ev_iload_n dX4_slot_4 rfl ?_
  refine ev_iadd dX4_slot_5 ?_
  refine ev_top (nI_add _ _) ?_
  refine ev_bipush (v := nI 6) dX4_slot_6 (by decide) ?_
  refine ev_irem dX4_slot_8 (by decide) ?_
  refine ev_top (pk_rem (by omega) (by decide) (by decide)) ?_
  refine ev_ist2 dX4_slot_9 (by decide) rfl ?_
  refine ev_iload_n dX4_slot_10 rfl ?_
  refine ev_if_lt_f (tgt := 29) dX4_slot_11 (by decide) (nI_pos (by omega)) ?_
  refine ev_iload_n dX4_slot_14 rfl ?_
  refine ev_bipush (v := nI 6) dX4_slot_15 (by decide) ?_
  refine ev_icmp_ge_f (tgt := 29) dX4_slot_17 (by decide) (nI_ge (by omega) (by decide)) ?_
  refine ev_aload_n dX4_slot_20 rfl ?_
  refine ev_getR fX4_11 dX4_slot_21 (by decide) sh100 rfl ?_
  refine ev_iload_n dX4_slot_24 rfl ?_
  refine ev_aaload dX4_slot_25 rfl (by omega) ?_
  refine ev_goto (tgt := 30) dX4_slot_26 (by decide) ?_
  exact ev_aret dX4_slot_30 rfl (by rw [show 34 + 11 * ((o + a) % 6) = 1 + 11 * (3 + (o + a) % 6) by omega]) rfl
/-- a chart remembered: o the oldest, c how many, chart j -/
def wRe (w : WS) (o c j : Nat) : WS := if c < 6 then cs_ (cpW w (3 + (o + c) % 6) j) 100 (upd (w.1 100) 2 (nI (c + 1)))
  else cs_ (cpW (cs_ (cs_ w 100 (upd (w.1 100) 1 (nI ((o + 1) % 6)))) 100 (upd (upd (w.1 100) 1 (nI ((o + 1) % 6))) 2 (nI 5))) (3 + o) j) 100 (upd (upd (upd (w.1 100) 1 (nI ((o + 1) % 6))) 2 (nI 5)) 2 (nI 6))
theorem cpW_100 (w : WS) {i j : Nat} (hi : i < 9) : (cpW w i j).1 100 = w.1 100 := cpW_n (Or.inr (by omega))
set_option maxRecDepth 4000 in
theorem qX4_remember {G : GX} {w : WS} {o c j : Nat} (ho : w.1 100 1 = nI o) (h6 : o < 6) (hc : w.1 100 2 = nI c) (hc6 : c ≤ 6) (hj : j < 3) : Big G 2 0 mX4_remember [.ref 100, .ref (1 + 11 * j)] w (.inl none) (wRe w o c j) := by
  refine big_of (by decide +kernel) (Nat.le_of_ble_eq_true rfl) ?_
  show Ev G 2 0 mX4_remember 0 [some (.ref 100), some (.ref (1 + 11 * j)), none] [] w _
  refine ev_aload_n dX4_remember_0 rfl ?_
  refine ev_getI fX4_18 dX4_remember_1 (by decide) sh100 rfl ?_
  refine ev_top hc ?_
  refine ev_bipush (v := nI 6) dX4_remember_4 (by decide) ?_
  refine ev_icmp_lt (tgt := 27) dX4_remember_6 (by decide) (fun hc6_ => ?_) (fun hc6_ => ?_)
  · have e6 : c < 6 := (pk_lt' (by omega) (by decide)).mp hc6_
    refine ev_aload_n dX4_remember_27 rfl ?_
    refine ev_aload_n dX4_remember_28 rfl ?_
    refine ev_getI fX4_18 dX4_remember_29 (by decide) sh100 rfl ?_
    refine ev_top hc ?_
    refine ev_callV kX4_25 co100 (qX4_slot ho h6 hc6) dX4_remember_32 rfl (by decide) (by decide) rfl ?_
    refine ev_ast2 dX4_remember_35 (by decide) rfl ?_
    refine ev_aload_n dX4_remember_36 rfl ?_
    refine ev_ifnull dX4_remember_37 ?_
    refine ev_aload_n dX4_remember_40 rfl ?_
    refine ev_aload_n dX4_remember_41 rfl ?_
    refine ev_callV kX4_29 (coB (i := 3 + (o + c) % 6) (by omega)) (qX1_copyFrom (i := 3 + (o + c) % 6) (by omega) (by omega) (by omega)) dX4_remember_42 rfl (by decide) (by decide) rfl ?_
    refine ev_aload_n dX4_remember_45 rfl ?_
    refine ev_dup dX4_remember_46 rfl ?_
    refine ev_getI fX4_18 dX4_remember_47 (by decide) sh100 rfl ?_
    refine ev_top ((congrFun (cpW_100 w (by omega)) 2).trans hc) ?_
    refine ev_iconst dX4_remember_50 ic1 ?_
    refine ev_iadd dX4_remember_51 ?_
    refine ev_top (nI_add _ _) ?_
    refine ev_put fX4_18 dX4_remember_52 rfl rfl (by decide) sh100 rfl ?_
    exact ev_vret dX4_remember_55 rfl rfl (by unfold wRe; rw [if_pos e6, cpW_100 w (by omega)])
  · obtain rfl : c = 6 := by
      have : ¬ c < 6 := fun q => hc6_ ((pk_lt' (by omega) (by decide)).mpr q)
      omega
    refine ev_aload_n dX4_remember_9 rfl ?_
    refine ev_aload_n dX4_remember_10 rfl ?_
    refine ev_getI fX4_22 dX4_remember_11 (by decide) sh100 rfl ?_
    refine ev_top ho ?_
    refine ev_iconst dX4_remember_14 ic1 ?_
    refine ev_iadd dX4_remember_15 ?_
    refine ev_top (nI_add _ _) ?_
    refine ev_bipush (v := nI 6) dX4_remember_16 (by decide) ?_
    refine ev_irem dX4_remember_18 (by decide) ?_
    refine ev_top (pk_rem (by omega) (by decide) (by decide)) ?_
    refine ev_put fX4_22 dX4_remember_19 rfl rfl (by decide) sh100 rfl ?_
    refine ev_aload_n dX4_remember_22 rfl ?_
    refine ev_iconst dX4_remember_23 ic5 ?_
    refine ev_put fX4_18 dX4_remember_24 rfl rfl (by decide) sh100 rfl ?_
    refine ev_w (w' := (cs_ (cs_ w 100 (upd (w.1 100) 1 (nI ((o + 1) % 6)))) 100 (upd (upd (w.1 100) 1 (nI ((o + 1) % 6))) 2 (nI 5)))) rfl ?_
    refine ev_aload_n dX4_remember_27 rfl ?_
    refine ev_aload_n dX4_remember_28 rfl ?_
    refine ev_getI fX4_18 dX4_remember_29 (by decide) sh100 rfl ?_
    refine ev_top (y := nI 5) rfl ?_
    refine ev_callV kX4_25 co100 (qX4_slot (w := (cs_ (cs_ w 100 (upd (w.1 100) 1 (nI ((o + 1) % 6)))) 100 (upd (upd (w.1 100) 1 (nI ((o + 1) % 6))) 2 (nI 5)))) (o := (o + 1) % 6) rfl (by omega) (by decide)) dX4_remember_32 rfl (by decide) (by decide) rfl ?_
    rw [show ((o + 1) % 6 + 5) % 6 = o by omega]
    refine ev_ast2 dX4_remember_35 (by decide) rfl ?_
    refine ev_aload_n dX4_remember_36 rfl ?_
    refine ev_ifnull dX4_remember_37 ?_
    refine ev_aload_n dX4_remember_40 rfl ?_
    refine ev_aload_n dX4_remember_41 rfl ?_
    refine ev_callV kX4_29 (coB (i := 3 + o) (by omega)) (qX1_copyFrom (i := 3 + o) (by omega) (by omega) (by omega)) dX4_remember_42 rfl (by decide) (by decide) rfl ?_
    refine ev_aload_n dX4_remember_45 rfl ?_
    refine ev_dup dX4_remember_46 rfl ?_
    refine ev_getI fX4_18 dX4_remember_47 (by decide) sh100 rfl ?_
    refine ev_top ((congrFun (cpW_100 (cs_ (cs_ w 100 (upd (w.1 100) 1 (nI ((o + 1) % 6)))) 100 (upd (upd (w.1 100) 1 (nI ((o + 1) % 6))) 2 (nI 5))) (by omega)) 2).trans (show _ = nI 5 from rfl)) ?_
    refine ev_iconst dX4_remember_50 ic1 ?_
    refine ev_iadd dX4_remember_51 ?_
    refine ev_top (nI_add _ _) ?_
    refine ev_put fX4_18 dX4_remember_52 rfl rfl (by decide) sh100 rfl ?_
    exact ev_vret dX4_remember_55 rfl rfl (by unfold wRe; rw [if_neg (by omega), cpW_100 (cs_ (cs_ w 100 (upd (w.1 100) 1 (nI ((o + 1) % 6)))) 100 (upd (upd (w.1 100) 1 (nI ((o + 1) % 6))) 2 (nI 5))) (by omega)]; rfl)
set_option maxRecDepth 4000 in
theorem qX4_takeBack {G : GX} {w : WS} {o c : Nat} (ho : w.1 100 1 = nI o) (h6 : o < 6) (hc : w.1 100 2 = nI (c + 1)) (hc6 : c < 6) : Big G 2 0 mX4_takeBack [.ref 100, .ref 1] w (.inl none) (cs_ (cpW w 0 (3 + (o + c) % 6)) 100 (upd (w.1 100) 2 (nI c))) := by
  refine big_of (by decide +kernel) (Nat.le_of_ble_eq_true rfl) ?_
  show Ev G 2 0 mX4_takeBack 0 [some (.ref 100), some (.ref 1), none] [] w _
  refine ev_aload_n dX4_takeBack_0 rfl ?_
  refine ev_aload_n dX4_takeBack_1 rfl ?_
  refine ev_getI fX4_18 dX4_takeBack_2 (by decide) sh100 rfl ?_
  refine ev_top hc ?_
  refine ev_iconst dX4_takeBack_5 ic1 ?_
  refine ev_isub dX4_takeBack_6 ?_
  refine ev_top (pk_sub (Nat.succ_le_succ (Nat.zero_le _))) ?_
  refine ev_callV kX4_25 co100 (qX4_slot (a := c) ho h6 (by omega)) dX4_takeBack_7 rfl (by decide) (by decide) rfl ?_
  refine ev_ast2 dX4_takeBack_10 (by decide) rfl ?_
  refine ev_aload_n dX4_takeBack_11 rfl ?_
  refine ev_ifnull dX4_takeBack_12 ?_
  refine ev_aload_n dX4_takeBack_15 rfl ?_
  refine ev_aload_n dX4_takeBack_16 rfl ?_
  refine ev_callV kX4_29 co1 (qX1_copyFrom (i := 0) (j := 3 + (o + c) % 6) (by omega) (by omega) (by omega)) dX4_takeBack_17 rfl (by decide) (by decide) rfl ?_
  refine ev_aload_n dX4_takeBack_20 rfl ?_
  refine ev_dup dX4_takeBack_21 rfl ?_
  refine ev_getI fX4_18 dX4_takeBack_22 (by decide) sh100 rfl ?_
  refine ev_top ((congrFun (cpW_100 w (by omega)) 2).trans hc) ?_
  refine ev_iconst dX4_takeBack_25 ic1 ?_
  refine ev_isub dX4_takeBack_26 ?_
  refine ev_top (pk_sub (Nat.succ_le_succ (Nat.zero_le _))) ?_
  refine ev_put fX4_18 dX4_takeBack_27 rfl rfl (by decide) sh100 rfl ?_
  exact ev_vret dX4_takeBack_30 rfl rfl (by rw [cpW_100 w (by omega)]; rfl)
