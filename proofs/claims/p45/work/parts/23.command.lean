/-! commands, carried out on the chart at hand -/
theorem ev_top {G : GX} {d b : Nat} {M : MT} {pc : Nat} {ls : List (Option Value)} {st : List Value} {w : WS} {Z : ZT} {x y : Int32} (h : x = y) (K : Ev G d b M pc ls (.int y :: st) w Z) : Ev G d b M pc ls (.int x :: st) w Z := by rw [h]; exact K
theorem ev_top2 {G : GX} {d b : Nat} {M : MT} {pc : Nat} {ls : List (Option Value)} {st : List Value} {w : WS} {Z : ZT} {x y : Int32} {v : Value} (h : x = y) (K : Ev G d b M pc ls (v :: .int y :: st) w Z) : Ev G d b M pc ls (v :: .int x :: st) w Z := by rw [h]; exact K
theorem cs_cs (w : WS) (k : Nat) (f g : Nat → Int32) : cs_ (cs_ w k f) k g = cs_ w k g := by
  apply ws_eq
  · intro j
    simp only [cs_]
    by_cases h : j = k
    · simp [h]
    · simp [h]
  · rfl
theorem plw_w (w : WS) (n : Nat) (pl : Nat → Nat) (s : Nat) : cs_ (cs_ w 6 (plw w n pl s)) 6 (upd (plw w n pl s) (13 * n + s + 1) (nI (pl (s + 1)))) = cs_ w 6 (plw w n pl (s + 1)) := by rw [cs_cs, plw_s]
/-- a way: the places after k steps, if they stay on the map -/
def pth (c : Nat) (ds : Nat → Nat) : Nat → Option Nat
  | 0 => some c
  | k + 1 => (pth c ds k).bind (fun x => nb x (ds k))
def plN (c : Nat) (ds : Nat → Nat) (k : Nat) : Nat := (pth c ds k).getD 0
/-- the first step that leaves the map -/
def lv_ (c : Nat) (ds : Nat → Nat) (l : Nat) : Option Nat := (List.range l).find? (fun k => (pth c ds (k + 1)).isNone)
theorem pth_lt {c : Nat} {ds : Nat → Nat} (hc : c < 64) : ∀ {k x : Nat}, pth c ds k = some x → x < 64 := by
  intro k
  induction k with
  | zero => intro x h; cases h; exact hc
  | succ k ih =>
    intro x h
    show x < 64
    unfold pth at h
    cases e : pth c ds k with
    | none => rw [e] at h; cases h
    | some y => rw [e] at h; exact nb_lt (ih e) h
theorem lv_none {c : Nat} {ds : Nat → Nat} {l : Nat} (h : lv_ c ds l = none) : ∀ k, k ≤ l → pth c ds k = some (plN c ds k) := by
  intro k hk
  cases k with
  | zero => rfl
  | succ k =>
    have := List.find?_eq_none.mp h k (List.mem_range.mpr (by omega))
    cases e : pth c ds (k + 1) with
    | none => rw [e] at this; exact absurd rfl this
    | some y => unfold plN; rw [e]; rfl
theorem plN_nb {c : Nat} {ds : Nat → Nat} {l : Nat} (h : lv_ c ds l = none) {k : Nat} (hk : k < l) : nb (plN c ds k) (ds k) = some (plN c ds (k + 1)) := by
  have h1 := lv_none h k (by omega)
  have h2 := lv_none h (k + 1) (by omega)
  have h3 : pth c ds (k + 1) = (pth c ds k).bind (fun x => nb x (ds k)) := rfl
  rw [h1, h2] at h3
  exact h3.symm
theorem plN_lt {c : Nat} {ds : Nat → Nat} {l : Nat} (hc : c < 64) (h : lv_ c ds l = none) {k : Nat} (hk : k ≤ l) : plN c ds k < 64 := pth_lt hc (lv_none h k hk)
theorem lvs_lt {c : Nat} {ds : Nat → Nat} {l k : Nat} (h : lv_ c ds l = some k) : k < l := List.mem_range.mp (List.mem_of_find?_eq_some h)
/-- an index out of a number -/
def oN_ (x : Int32) : Nat := x.toInt.toNat
theorem oN_nI {k : Nat} (h : k < 2 ^ 31) : oN_ (nI k) = k := by unfold oN_; rw [nI_toInt h]; rfl
set_option maxRecDepth 4000 in
theorem qX1_addDragon {G : GX} {w : WS} {S : ST} (hS : cm_ S w) {c p a : Nat} (hc : c < 64) (ha : a < 4) (ho : sO S c = nI a) (hn : nD S < 5) : ∃ w2, Big G 3 0 mX1_addDragon [.ref 1, .int (nI c), .int (nI p)] w (.inl (some (.int (nI (nD S))))) w2 ∧ chA (sAD S c p a) w2 1 ∧ fr1 w w2 := by
  have hS0 := hS
  obtain ⟨hO, hC, hR, hRv, hD, hDv, hM0, hM1, hM2, hM3, hM4⟩ := cm_cells hS
  obtain ⟨hch, hk1, hk2, hk3, hk4⟩ := hS
  refine ⟨_, ?_, ch_ad hch c p a rfl rfl rfl rfl rfl, fr1_cs (fr1_cs (fr1_cs (fr1_cs (fr1_cs fr1_rf (by decide) _) (by decide) _) (by decide) _) (by decide) _) (by decide) _⟩
  refine big_of (by decide +kernel) (Nat.le_of_ble_eq_true rfl) ?_
  show Ev G 3 0 mX1_addDragon 0 [some (.ref 1), some (.int (nI c)), some (.int (nI p)), none] [] w _
  refine ev_aload_n dX1_addDragon_0 rfl ?_
  refine ev_iload_n dX1_addDragon_1 rfl ?_
  refine ev_callV kX1_91 co1 (qX1_ownerAt_y hS0 hc) dX1_addDragon_2 rfl (by decide) (by decide) rfl ?_
  refine ev_top ho ?_
  refine ev_ist3 dX1_addDragon_5 (by decide) rfl ?_
  refine ev_aload_n dX1_addDragon_6 rfl ?_
  refine ev_getI fX1_61 dX1_addDragon_7 (by decide) sh1 rfl ?_
  refine ev_top hD ?_
  refine ev_if_lt_f (tgt := 28) dX1_addDragon_10 (by decide) (nI_pos (by omega)) ?_
  refine ev_aload_n dX1_addDragon_13 rfl ?_
  refine ev_getI fX1_61 dX1_addDragon_14 (by decide) sh1 rfl ?_
  refine ev_top hD ?_
  refine ev_iconst dX1_addDragon_17 ic5 ?_
  refine ev_icmp_ge_f (tgt := 28) dX1_addDragon_18 (by decide) (nI_ge (by omega) (by decide)) ?_
  refine ev_iload_n dX1_addDragon_21 rfl ?_
  refine ev_callN kX1_80 (qX11_isRealm_y ha) dX1_addDragon_22 rfl (by decide) (by decide) rfl ?_
  refine ev_if_ne_t (tgt := 30) dX1_addDragon_25 (by decide) (by decide) ?_
  refine ev_aload_n dX1_addDragon_30 rfl ?_
  refine ev_getR fX1_15 dX1_addDragon_31 (by decide) sh1 rfl ?_
  refine ev_iload_n dX1_addDragon_34 rfl ?_
  refine ev_dup2 dX1_addDragon_35 rfl rfl ?_
  refine ev_iaload dX1_addDragon_36 rfl (by omega) (by decide) sh3 ?_
  refine ev_top (hC a ha).1 ?_
  refine ev_iload_n dX1_addDragon_37 rfl ?_
  refine ev_isub dX1_addDragon_38 ?_
  refine ev_iastore dX1_addDragon_39 rfl (by omega) rfl (by decide) sh3 ?_
  refine ev_aload_n dX1_addDragon_40 rfl ?_
  refine ev_getR fX1_33 dX1_addDragon_41 (by decide) sh1 rfl ?_
  refine ev_aload_n dX1_addDragon_44 rfl ?_
  refine ev_getI fX1_61 dX1_addDragon_45 (by decide) sh1 rfl ?_
  refine ev_top hD ?_
  refine ev_iload_n dX1_addDragon_48 rfl ?_
  refine ev_iastore dX1_addDragon_49 rfl (by omega) rfl (by decide) sh9 ?_
  refine ev_aload_n dX1_addDragon_50 rfl ?_
  refine ev_getR fX1_36 dX1_addDragon_51 (by decide) sh1 rfl ?_
  refine ev_aload_n dX1_addDragon_54 rfl ?_
  refine ev_getI fX1_61 dX1_addDragon_55 (by decide) sh1 rfl ?_
  refine ev_top hD ?_
  refine ev_iload_n dX1_addDragon_58 rfl ?_
  refine ev_iastore dX1_addDragon_59 rfl (by omega) rfl (by decide) sh10 ?_
  refine ev_aload_n dX1_addDragon_60 rfl ?_
  refine ev_getR fX1_39 dX1_addDragon_61 (by decide) sh1 rfl ?_
  refine ev_aload_n dX1_addDragon_64 rfl ?_
  refine ev_getI fX1_61 dX1_addDragon_65 (by decide) sh1 rfl ?_
  refine ev_top hD ?_
  refine ev_iload_n dX1_addDragon_68 rfl ?_
  refine ev_iastore dX1_addDragon_69 rfl (by omega) rfl (by decide) sh11 ?_
  refine ev_aload_n dX1_addDragon_70 rfl ?_
  refine ev_dup dX1_addDragon_71 rfl ?_
  refine ev_getI fX1_61 dX1_addDragon_72 (by decide) sh1 rfl ?_
  refine ev_top hD ?_
  refine ev_iconst dX1_addDragon_75 ic1 ?_
  refine ev_iadd dX1_addDragon_76 ?_
  refine ev_top (nI_add _ _) ?_
  refine ev_put fX1_61 dX1_addDragon_77 rfl rfl (by decide) sh1 rfl ?_
  refine ev_aload_n dX1_addDragon_80 rfl ?_
  refine ev_getI fX1_61 dX1_addDragon_81 (by decide) sh1 rfl ?_
  refine ev_top (y := nI (nD S + 1)) rfl ?_
  refine ev_iconst dX1_addDragon_84 ic1 ?_
  refine ev_isub dX1_addDragon_85 ?_
  refine ev_top (pk_sub (Nat.succ_le_succ (Nat.zero_le _))) ?_
  exact ev_iret dX1_addDragon_86 rfl rfl rfl rfl
set_option maxRecDepth 4000 in
theorem qX1_addRiver {G : GX} {w : WS} {S : ST} (hS : cm_ S w) {pl ds : Nat → Nat} {l t : Nat} {k0 : Int32} (hcd : cd_ w k0 (nI (pl 0)) (nI t)) (hcs : cs2_ w l ds) (hn : nR S < 4) (hpl : ∀ q, q < l → pl q < 64) (hnb : ∀ q, q < l → nb (pl q) (ds q) = some (pl (q + 1))) : Big G 3 0 mX1_addRiver [.ref 1, .ref 102] w (.inl (some (.int (nI (nR S))))) (cs_ (cs_ (cs_ (cs_ w 6 (plw w (nR S) pl l)) 7 (upd (w.1 7) (nR S) (nI l))) 8 (upd (w.1 8) (nR S) (nI t))) 1 (upd (w.1 1) 10 (nI (nR S + 1)))) := by
  refine big_of (by decide +kernel) (Nat.le_of_ble_eq_true rfl) ?_
  have hS0 := hS
  obtain ⟨hO, hC, hR, hRv, hD, hDv, hM0, hM1, hM2, hM3, hM4⟩ := cm_cells hS
  obtain ⟨hch, hk1, hk2, hk3, hk4⟩ := hS
  show Ev G 3 0 mX1_addRiver 0 [some (.ref 1), some (.ref 102), none, none, none] [] w _
  refine ev_aload_n dX1_addRiver_0 rfl ?_
  refine ev_getI fX1_58 dX1_addRiver_1 (by decide) sh1 rfl ?_
  refine ev_top hR ?_
  refine ev_if_lt_f (tgt := 15) dX1_addRiver_4 (by decide) (nI_pos (by omega)) ?_
  refine ev_aload_n dX1_addRiver_7 rfl ?_
  refine ev_getI fX1_58 dX1_addRiver_8 (by decide) sh1 rfl ?_
  refine ev_top hR ?_
  refine ev_iconst dX1_addRiver_11 ic4 ?_
  refine ev_icmp_lt_t (tgt := 17) dX1_addRiver_12 (by decide) ((pk_lt' (by omega) (by decide)).mpr hn) ?_
  refine ev_aload_n dX1_addRiver_17 rfl ?_
  refine ev_getI fX1_102 dX1_addRiver_18 (by decide) sh102 rfl ?_
  refine ev_top hcd.2.1 ?_
  refine ev_ist2 dX1_addRiver_21 (by decide) rfl ?_
  refine ev_aload_n dX1_addRiver_22 rfl ?_
  refine ev_getI fX1_58 dX1_addRiver_23 (by decide) sh1 rfl ?_
  refine ev_top hR ?_
  refine ev_bipush (v := nI 13) dX1_addRiver_26 (by decide) ?_
  refine ev_imul dX1_addRiver_28 ?_
  rw [pk_mul, Nat.mul_comm (nR S) 13]
  refine ev_ist3 dX1_addRiver_29 (by decide) rfl ?_
  refine ev_aload_n dX1_addRiver_30 rfl ?_
  refine ev_getR fX1_24 dX1_addRiver_31 (by decide) sh1 rfl ?_
  refine ev_iload_n dX1_addRiver_34 rfl ?_
  refine ev_iload_n dX1_addRiver_35 rfl ?_
  refine ev_iastore dX1_addRiver_36 rfl (by omega) rfl (by decide) sh6 ?_
  refine ev_w (w' := cs_ w 6 (plw w (nR S) pl 0)) (by rw [plw_0]) ?_
  refine ev_iconst dX1_addRiver_37 ic0 ?_
  refine ev_ist4 dX1_addRiver_38 (by decide) rfl ?_
  have hl := hcs.1
  have lp : ∀ (n9 s : Nat) , s + n9 = l → Ev G 3 0 mX1_addRiver 40 [some (.ref 1), some (.ref 102), some (.int (nI (pl s))), some (.int (nI (13 * nR S))), some (.int (nI s))] [] (cs_ w 6 (plw w (nR S) pl s)) (zu_ G (.inl (some (.int (nI (nR S))))) (cs_ (cs_ (cs_ (cs_ w 6 (plw w (nR S) pl l)) 7 (upd (w.1 7) (nR S) (nI l))) 8 (upd (w.1 8) (nR S) (nI t))) 1 (upd (w.1 1) 10 (nI (nR S + 1))))) := by
    intro n9
    induction n9 with
    | zero =>
      intro s  hi9 
      refine ev_iload dX1_addRiver_40 rfl ?_
      refine ev_aload_n dX1_addRiver_42 rfl ?_
      refine ev_getI fX1_143 dX1_addRiver_43 (by decide) sh102 rfl ?_
      refine ev_top hcs.2.1 ?_
      refine ev_icmp_ge_t (tgt := 86) dX1_addRiver_46 (by decide) (nI_le (by omega) (by omega)) ?_
      refine ev_aload_n dX1_addRiver_86 rfl ?_
      refine ev_getR fX1_27 dX1_addRiver_87 (by decide) sh1 rfl ?_
      refine ev_aload_n dX1_addRiver_90 rfl ?_
      obtain rfl : s = l := by omega
      refine ev_getI fX1_58 dX1_addRiver_91 (by decide) sh1 rfl ?_
      refine ev_top hR ?_
      refine ev_aload_n dX1_addRiver_94 rfl ?_
      refine ev_getI fX1_143 dX1_addRiver_95 (by decide) sh102 rfl ?_
      refine ev_top hcs.2.1 ?_
      refine ev_iastore dX1_addRiver_98 rfl (by omega) rfl (by decide) sh7 ?_
      refine ev_aload_n dX1_addRiver_99 rfl ?_
      refine ev_getR fX1_30 dX1_addRiver_100 (by decide) sh1 rfl ?_
      refine ev_aload_n dX1_addRiver_103 rfl ?_
      refine ev_getI fX1_58 dX1_addRiver_104 (by decide) sh1 rfl ?_
      refine ev_top hR ?_
      refine ev_aload_n dX1_addRiver_107 rfl ?_
      refine ev_getI fX1_105 dX1_addRiver_108 (by decide) sh102 rfl ?_
      refine ev_top hcd.2.2 ?_
      refine ev_iastore dX1_addRiver_111 rfl (by omega) rfl (by decide) sh8 ?_
      refine ev_aload_n dX1_addRiver_112 rfl ?_
      refine ev_dup dX1_addRiver_113 rfl ?_
      refine ev_getI fX1_58 dX1_addRiver_114 (by decide) sh1 rfl ?_
      refine ev_top hR ?_
      refine ev_iconst dX1_addRiver_117 ic1 ?_
      refine ev_iadd dX1_addRiver_118 ?_
      refine ev_top (nI_add _ _) ?_
      refine ev_put fX1_58 dX1_addRiver_119 rfl rfl (by decide) sh1 rfl ?_
      refine ev_aload_n dX1_addRiver_122 rfl ?_
      refine ev_getI fX1_58 dX1_addRiver_123 (by decide) sh1 rfl ?_
      refine ev_top (y := nI (nR S + 1)) rfl ?_
      refine ev_iconst dX1_addRiver_126 ic1 ?_
      refine ev_isub dX1_addRiver_127 ?_
      refine ev_top (pk_sub (Nat.succ_le_succ (Nat.zero_le _))) ?_
      exact ev_iret dX1_addRiver_128 rfl rfl rfl rfl
    | succ n9 ih =>
      intro s  hi9 
      refine ev_iload dX1_addRiver_40 rfl ?_
      refine ev_aload_n dX1_addRiver_42 rfl ?_
      refine ev_getI fX1_143 dX1_addRiver_43 (by decide) sh102 rfl ?_
      refine ev_top hcs.2.1 ?_
      refine ev_icmp_ge_f (tgt := 86) dX1_addRiver_46 (by decide) (nI_ge (by omega) (by omega)) ?_
      refine ev_iload dX1_addRiver_49 rfl ?_
      refine ev_bipush (v := nI 12) dX1_addRiver_51 (by decide) ?_
      refine ev_icmp_ge_f (tgt := 86) dX1_addRiver_53 (by decide) (nI_ge (by omega) (by decide)) ?_
      refine ev_iload_n dX1_addRiver_56 rfl ?_
      refine ev_aload_n dX1_addRiver_57 rfl ?_
      refine ev_getR fX1_146 dX1_addRiver_58 (by decide) sh102 rfl ?_
      refine ev_iload dX1_addRiver_61 rfl ?_
      refine ev_iaload dX1_addRiver_63 rfl (by omega) (by decide) sh103 ?_
      refine ev_top (hcs.2.2 s (by omega)).1 ?_
      refine ev_callN kX1_87 (qX11_beside (hpl s (by omega)) (hcs.2.2 s (by omega)).2) dX1_addRiver_64 rfl (by decide) (by decide) rfl ?_
      refine ev_top (y := nI (pl (s + 1))) (by rw [hnb s (by omega)]; rfl) ?_
      refine ev_ist2 dX1_addRiver_67 (by decide) rfl ?_
      refine ev_aload_n dX1_addRiver_68 rfl ?_
      refine ev_getR fX1_24 dX1_addRiver_69 (by decide) sh1 rfl ?_
      refine ev_iload_n dX1_addRiver_72 rfl ?_
      refine ev_iload dX1_addRiver_73 rfl ?_
      refine ev_iadd dX1_addRiver_75 ?_
      refine ev_top (nI_add _ _) ?_
      refine ev_iconst dX1_addRiver_76 ic1 ?_
      refine ev_iadd dX1_addRiver_77 ?_
      refine ev_top (nI_add _ _) ?_
      refine ev_iload_n dX1_addRiver_78 rfl ?_
      refine ev_iastore dX1_addRiver_79 rfl (by omega) rfl (by decide) sh6 ?_
      refine ev_w (w' := cs_ w 6 (plw w (nR S) pl (s + 1))) (plw_w w (nR S) pl s) ?_
      refine ev_iinc4 dX1_addRiver_80 (nI_inc _) (by decide) rfl ?_
      refine ev_goto (tgt := 40) dX1_addRiver_83 (by decide) ?_
      exact ih (s + 1) (by omega)
  exact lp l 0 (by omega)
set_option maxRecDepth 4000 in
theorem qX1_removeRiver {G : GX} {w : WS} {S : ST} (hS : cm_ S w) {i : Nat} (hi : i < nR S) : Big G 2 0 mX1_removeRiver [.ref 1, .int (nI i)] w (.inl (some (.int (nI (nR S - 1))))) (wRr w i (nR S)) := by
  refine big_of (by decide +kernel) (Nat.le_of_ble_eq_true rfl) ?_
  have hS0 := hS
  obtain ⟨hO, hC, hR, hRv, hD, hDv, hM0, hM1, hM2, hM3, hM4⟩ := cm_cells hS
  obtain ⟨hch, hk1, hk2, hk3, hk4⟩ := hS
  show Ev G 2 0 mX1_removeRiver 0 [some (.ref 1), some (.int (nI i)), none] [] w _
  refine ev_aload_n dX1_removeRiver_0 rfl ?_
  refine ev_iload_n dX1_removeRiver_1 rfl ?_
  refine ev_callV kX1_94 co1 (qX1_hasRiver_y hS0 hi) dX1_removeRiver_2 rfl (by decide) (by decide) rfl ?_
  refine ev_if_ne_t (tgt := 13) dX1_removeRiver_5 (by decide) (by decide) ?_
  refine ev_iload_n dX1_removeRiver_13 rfl ?_
  refine ev_ist2 dX1_removeRiver_14 (by decide) rfl ?_
  have h5 := hk2.1
  have lp : ∀ (n9 t : Nat) , t + n9 = nR S - 1 → i ≤ t → Ev G 2 0 mX1_removeRiver 15 [some (.ref 1), some (.int (nI i)), some (.int (nI t))] [] (sf4 w i t) (zu_ G (.inl (some (.int (nI (nR S - 1))))) (wRr w i (nR S))) := by
    intro n9
    induction n9 with
    | zero =>
      intro t  hi9 hit
      refine ev_iload_n dX1_removeRiver_15 rfl ?_
      refine ev_iconst dX1_removeRiver_16 ic1 ?_
      refine ev_iadd dX1_removeRiver_17 ?_
      rw [nI_add]
      refine ev_aload_n dX1_removeRiver_18 rfl ?_
      refine ev_getI fX1_58 dX1_removeRiver_19 (by decide) sh1 rfl ?_
      refine ev_top ((congrFun (sf4_1 w i t) 10).trans hR) ?_
      refine ev_icmp_ge_t (tgt := 89) dX1_removeRiver_22 (by decide) (nI_le (by omega) (by omega)) ?_
      refine ev_aload_n dX1_removeRiver_89 rfl ?_
      refine ev_dup dX1_removeRiver_90 rfl ?_
      refine ev_getI fX1_58 dX1_removeRiver_91 (by decide) sh1 rfl ?_
      refine ev_top ((congrFun (sf4_1 w i t) 10).trans hR) ?_
      refine ev_iconst dX1_removeRiver_94 ic1 ?_
      refine ev_isub dX1_removeRiver_95 ?_
      refine ev_top (pk_sub (by omega)) ?_
      refine ev_put fX1_58 dX1_removeRiver_96 rfl rfl (by decide) sh1 rfl ?_
      obtain rfl : t = nR S - 1 := by omega
      refine ev_w (w' := wRr w i (nR S)) (by unfold wRr; rw [sf4_1]) ?_
      refine ev_aload_n dX1_removeRiver_99 rfl ?_
      refine ev_getI fX1_58 dX1_removeRiver_100 (by decide) sh1 rfl ?_
      refine ev_top (y := nI (nR S - 1)) (by simp [wRr, cs_, upd]) ?_
      exact ev_iret dX1_removeRiver_103 rfl rfl rfl rfl
    | succ n9 ih =>
      intro t  hi9 hit
      refine ev_iload_n dX1_removeRiver_15 rfl ?_
      refine ev_iconst dX1_removeRiver_16 ic1 ?_
      refine ev_iadd dX1_removeRiver_17 ?_
      rw [nI_add]
      refine ev_aload_n dX1_removeRiver_18 rfl ?_
      refine ev_getI fX1_58 dX1_removeRiver_19 (by decide) sh1 rfl ?_
      refine ev_top ((congrFun (sf4_1 w i t) 10).trans hR) ?_
      refine ev_icmp_ge_f (tgt := 89) dX1_removeRiver_22 (by decide) (nI_ge (by omega) (by omega)) ?_
      refine ev_iload_n dX1_removeRiver_25 rfl ?_
      refine ev_iconst dX1_removeRiver_26 ic1 ?_
      refine ev_iadd dX1_removeRiver_27 ?_
      rw [nI_add]
      refine ev_iconst dX1_removeRiver_28 ic4 ?_
      refine ev_icmp_ge_f (tgt := 89) dX1_removeRiver_29 (by decide) (nI_ge (by omega) (by decide)) ?_
      refine ev_aload_n dX1_removeRiver_32 rfl ?_
      refine ev_getR fX1_27 dX1_removeRiver_33 (by decide) sh1 rfl ?_
      refine ev_iload_n dX1_removeRiver_36 rfl ?_
      refine ev_aload_n dX1_removeRiver_37 rfl ?_
      refine ev_getR fX1_27 dX1_removeRiver_38 (by decide) sh1 rfl ?_
      refine ev_iload_n dX1_removeRiver_41 rfl ?_
      refine ev_iconst dX1_removeRiver_42 ic1 ?_
      refine ev_iadd dX1_removeRiver_43 ?_
      rw [nI_add]
      refine ev_iaload dX1_removeRiver_44 rfl (by omega) (by decide) sh7 ?_
      refine ev_iastore dX1_removeRiver_45 rfl (by omega) rfl (by decide) sh7 ?_
      refine ev_aload_n dX1_removeRiver_46 rfl ?_
      refine ev_getR fX1_30 dX1_removeRiver_47 (by decide) sh1 rfl ?_
      refine ev_iload_n dX1_removeRiver_50 rfl ?_
      refine ev_aload_n dX1_removeRiver_51 rfl ?_
      refine ev_getR fX1_30 dX1_removeRiver_52 (by decide) sh1 rfl ?_
      refine ev_iload_n dX1_removeRiver_55 rfl ?_
      refine ev_iconst dX1_removeRiver_56 ic1 ?_
      refine ev_iadd dX1_removeRiver_57 ?_
      rw [nI_add]
      refine ev_iaload dX1_removeRiver_58 rfl (by omega) (by decide) sh8 ?_
      refine ev_iastore dX1_removeRiver_59 rfl (by omega) rfl (by decide) sh8 ?_
      refine ev_aload_n dX1_removeRiver_60 rfl ?_
      refine ev_getR fX1_24 dX1_removeRiver_61 (by decide) sh1 rfl ?_
      refine ev_iload_n dX1_removeRiver_64 rfl ?_
      refine ev_iconst dX1_removeRiver_65 ic1 ?_
      refine ev_iadd dX1_removeRiver_66 ?_
      rw [nI_add]
      refine ev_bipush (v := nI 13) dX1_removeRiver_67 (by decide) ?_
      refine ev_imul dX1_removeRiver_69 ?_
      rw [pk_mul]
      refine ev_aload_n dX1_removeRiver_70 rfl ?_
      refine ev_getR fX1_24 dX1_removeRiver_71 (by decide) sh1 rfl ?_
      refine ev_iload_n dX1_removeRiver_74 rfl ?_
      refine ev_bipush (v := nI 13) dX1_removeRiver_75 (by decide) ?_
      refine ev_imul dX1_removeRiver_77 ?_
      rw [pk_mul]
      refine ev_bipush (v := nI 13) dX1_removeRiver_78 (by decide) ?_
      refine ev_copy aX1_52 dX1_removeRiver_80 rfl rfl rfl (by decide) (by decide) sh6 sh6 (by omega) (by omega) rfl ?_
      refine ev_iinc2 dX1_removeRiver_83 (nI_inc _) (by decide) rfl ?_
      refine ev_goto (tgt := 15) dX1_removeRiver_86 (by decide) ?_
      refine ev_w (sf4_step (A := w.1 7 (t + 1)) (B := w.1 8 (t + 1)) hit rfl rfl (by rw [sf4_7, shf_at]) (by rw [cs_ne _ _ (by decide), sf4_8, shf_at]) (by rw [cs_ne _ _ (by decide), cs_ne _ _ (by decide), sf4_6, shP_step _ hit])) ?_
      exact ih (t + 1) (by omega) (by omega)
  have q := lp (nR S - 1 - i) i (by omega) (Nat.le_refl _)
  rw [sf4_0] at q
  exact q
def wSet (w : WS) (k c n : Int32) : WS := cs_ w 102 (upd (upd (upd (upd (w.1 102) 0 k) 1 c) 2 n) 3 (nI 0))
theorem cd_set (w : WS) (k c n : Int32) : cd_ (wSet w k c n) k c n := ⟨rfl, rfl, rfl⟩
set_option maxRecDepth 4000 in
theorem qX2_set {G : GX} {w : WS} {k c n : Int32} : Big G 1 0 mX2_set [.ref 102, .int k, .int c, .int n] w (.inl none) (wSet w k c n) := by
  refine big_of (by decide +kernel) (Nat.le_of_ble_eq_true rfl) ?_
  show Ev G 1 0 mX2_set 0 [some (.ref 102), some (.int k), some (.int c), some (.int n)] [] w _
  refine ev_aload_n dX2_set_0 rfl ?_
  refine ev_iload_n dX2_set_1 rfl ?_
  refine ev_put fX2_15 dX2_set_2 rfl rfl (by decide) sh102 rfl ?_
  refine ev_aload_n dX2_set_5 rfl ?_
  refine ev_iload_n dX2_set_6 rfl ?_
  refine ev_put fX2_19 dX2_set_7 rfl rfl (by decide) sh102 rfl ?_
  refine ev_aload_n dX2_set_10 rfl ?_
  refine ev_iload_n dX2_set_11 rfl ?_
  refine ev_put fX2_22 dX2_set_12 rfl rfl (by decide) sh102 rfl ?_
  refine ev_aload_n dX2_set_15 rfl ?_
  refine ev_iconst dX2_set_16 ic0 ?_
  refine ev_put fX2_25 dX2_set_17 rfl rfl (by decide) sh102 rfl ?_
  exact ev_vret dX2_set_20 rfl rfl (by simp only [wSet, cs_cs, cs_same])
set_option maxRecDepth 4000 in
theorem qX2_leavingStep {G : GX} {w : WS} {c l : Nat} {ds : Nat → Nat} (hcc : w.1 102 1 = nI c) (hc : c < 64) (hcs : cs2_ w l ds) : Big G 3 0 mX2_leavingStep [.ref 102] w (.inl (some (.int (oI (lv_ c ds l))))) w := by
  refine big_of (by decide +kernel) (Nat.le_of_ble_eq_true rfl) ?_
  show Ev G 3 0 mX2_leavingStep 0 [some (.ref 102), none, none] [] w _
  refine ev_aload_n dX2_leavingStep_0 rfl ?_
  refine ev_getI fX2_19 dX2_leavingStep_1 (by decide) sh102 rfl ?_
  refine ev_top hcc ?_
  refine ev_ist1 dX2_leavingStep_4 (by decide) rfl ?_
  refine ev_iconst dX2_leavingStep_5 ic0 ?_
  refine ev_ist2 dX2_leavingStep_6 (by decide) rfl ?_
  have hl := hcs.1
  have lp : ∀ (n9 s : Nat) (x : Nat), s + n9 = l → pth c ds s = some x → (∀ j, j < s → (pth c ds (j + 1)).isNone = false) → Ev G 3 0 mX2_leavingStep 7 [some (.ref 102), some (.int (nI x)), some (.int (nI s))] [] w (zu_ G (.inl (some (.int (oI (lv_ c ds l))))) w) := by
    intro n9
    induction n9 with
    | zero =>
      intro s x hi hx hb
      refine ev_iload_n dX2_leavingStep_7 rfl ?_
      refine ev_aload_n dX2_leavingStep_8 rfl ?_
      refine ev_getI fX2_25 dX2_leavingStep_9 (by decide) sh102 rfl ?_
      refine ev_top hcs.2.1 ?_
      refine ev_icmp_ge_t (tgt := 45) dX2_leavingStep_12 (by decide) (nI_le (by omega) (by omega)) ?_
      refine ev_iconst dX2_leavingStep_45 icm1 ?_
      exact ev_iret dX2_leavingStep_46 rfl rfl (by have e : lv_ c ds l = none := find_none (fun j hj => hb j (by omega)); rw [e]; rfl) rfl
    | succ n9 ih =>
      intro s x hi hx hb
      refine ev_iload_n dX2_leavingStep_7 rfl ?_
      refine ev_aload_n dX2_leavingStep_8 rfl ?_
      refine ev_getI fX2_25 dX2_leavingStep_9 (by decide) sh102 rfl ?_
      refine ev_top hcs.2.1 ?_
      refine ev_icmp_ge_f (tgt := 45) dX2_leavingStep_12 (by decide) (nI_ge (by omega) (by omega)) ?_
      refine ev_iload_n dX2_leavingStep_15 rfl ?_
      refine ev_bipush (v := nI 12) dX2_leavingStep_16 (by decide) ?_
      refine ev_icmp_ge_f (tgt := 45) dX2_leavingStep_18 (by decide) (nI_ge (by omega) (by decide)) ?_
      refine ev_iload_n dX2_leavingStep_21 rfl ?_
      refine ev_aload_n dX2_leavingStep_22 rfl ?_
      refine ev_getR fX2_9 dX2_leavingStep_23 (by decide) sh102 rfl ?_
      refine ev_iload_n dX2_leavingStep_26 rfl ?_
      refine ev_iaload dX2_leavingStep_27 rfl (by omega) (by decide) sh103 ?_
      refine ev_top (hcs.2.2 s (by omega)).1 ?_
      refine ev_callN kX2_28 (qX11_beside (pth_lt hc hx) (hcs.2.2 s (by omega)).2) dX2_leavingStep_28 rfl (by decide) (by decide) rfl ?_
      have e1 : pth c ds (s + 1) = nb x (ds s) := by show (pth c ds s).bind (fun x => nb x (ds s)) = _; rw [hx]; rfl
      rw [← e1]
      have ob : ∀ k, pth c ds (s + 1) = some k → k < 2 ^ 31 := fun k hk => by have := pth_lt hc hk; omega
      refine ev_ist1 dX2_leavingStep_31 (by decide) rfl ?_
      refine ev_iload_n dX2_leavingStep_32 rfl ?_
      refine ev_iconst dX2_leavingStep_33 icm1 ?_
      refine ev_icmp_ne (tgt := 39) dX2_leavingStep_34 (by decide) (fun hc34 => ?_) (fun hc34 => ?_)
      · obtain ⟨y, e2⟩ : ∃ y, pth c ds (s + 1) = some y := by cases e : pth c ds (s + 1) with
          | none => exact absurd ((oI_none ob).mpr e) hc34
          | some y => exact ⟨y, rfl⟩
        rw [e2]
        refine ev_iinc2 dX2_leavingStep_39 (nI_inc _) (by decide) rfl ?_
        refine ev_goto (tgt := 7) dX2_leavingStep_42 (by decide) ?_
        exact ih (s + 1) y (by omega) e2 (fun j hj => (Nat.lt_or_ge j s).elim (fun h => hb j h) (fun h => by obtain rfl : j = s := (by omega); rw [e2]; rfl))
      · have e2 : pth c ds (s + 1) = none := (oI_none ob).mp hc34
        refine ev_iload_n dX2_leavingStep_37 rfl ?_
        exact ev_iret dX2_leavingStep_38 rfl rfl (by have e : lv_ c ds l = some s := find_some (by omega) (by rw [e2]; rfl) (fun j hj => hb j hj); rw [e]; rfl) rfl
  exact lp l 0 c (by omega) rfl (fun j hj => absurd hj (Nat.not_lt_zero _))
