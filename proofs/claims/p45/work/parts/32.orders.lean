/-! texts carried out; orders; truths; signs -/
theorem fErr_s {n : Nat} {t : Nat → Nat} {f p : Nat} (h : fErr n t (f + 1) p = none) : ∃ c q, cmdAt n t p = (some c, q) ∧ (q = n ∨ (q ≠ n ∧ tSg n t q 59 = true ∧ fErr n t f (q + 1) = none)) := by
  unfold fErr at h
  obtain ⟨y, q, e⟩ : ∃ y q, cmdAt n t p = (y, q) := ⟨_, _, rfl⟩
  rw [e] at h
  cases y with
  | none => cases h
  | some c =>
    refine ⟨c, q, e, ?_⟩
    dsimp only at h
    by_cases e1 : q = n
    · exact Or.inl e1
    · rw [if_neg e1] at h
      by_cases e2 : tSg n t q 59 = true
      · rw [if_pos e2] at h; exact Or.inr ⟨e1, e2, h⟩
      · rw [if_neg e2] at h; cases h
/-- commands one after the other: what it returns, what is drawn then, what is kept -/
def rnC : ST → Nat → List Cmd → Int32 × ST × Option (List (Int32 × Int32))
  | S, k, [] => (nI k, S, none)
  | S, k, q :: L => if thC S q = false then (-1, S, none) else if grC S q ≠ 0 then (-2, S, some ((nI 10, nI k) :: kpC S q)) else rnC (cdo S q) (k + 1) L
def pCT (n : Nat) (t : Nat → Nat) (S : ST) (K : List (Int32 × Int32)) (w : WS) : OT → WS → Prop := fun o w2 => o = .inl (some (.int (rnC S 0 (cms n t 60 0)).1)) ∧ cm_ (rnC S 0 (cms n t 60 0)).2.1 w2 ∧ kA ((rnC S 0 (cms n t 60 0)).2.2.getD K) w2 ∧ frG [(1, 11), (102, 103), (106, 106), (109, 111)] w w2
theorem pCT_of {n : Nat} {t : Nat → Nat} {S : ST} {K : List (Int32 × Int32)} {w w2 : WS} {a : Int32} {T : ST} {z : Option (List (Int32 × Int32))} {v : Int32} (e : rnC S 0 (cms n t 60 0) = (a, T, z)) (hv : v = a) (h1 : cm_ T w2) (h2 : kA (z.getD K) w2) (h3 : frG [(1, 11), (102, 103), (106, 106), (109, 111)] w w2) : pCT n t S K w (.inl (some (.int v))) w2 := by
  unfold pCT
  rw [e, hv]
  exact ⟨rfl, h1, h2, h3⟩
set_option maxRecDepth 4000 in
theorem qX11_carryOutText {G : GX} {w : WS} {S : ST} (hS : cm_ S w) {n : Nat} {t : Nat → Nat} (hi : inA n t w) {K : List (Int32 × Int32)} (hK : kA K w) (he : fErr n t 60 0 = none) : ∃ o w2, (pCT n t S K w o w2) ∧ Big G 7 0 mX11_carryOutText [.ref 0] w o w2 := by
  refine bx_of (P := pCT n t S K w) (by decide +kernel) (Nat.le_of_ble_eq_true rfl) ?_
  show Ex G 7 0 mX11_carryOutText 0 [some (.ref 0), none, none] [] w _
  refine ex_s (fun _ => ev_aload_n dX11_carryOutText_0 rfl) ?_
  refine ex_s (fun _ => ev_getR fX11_39 dX11_carryOutText_1 (by decide) sh0 rfl) ?_
  refine ex_s (fun _ => ev_callV kX11_412 co106 qX7_rewind dX11_carryOutText_4 rfl (by decide) (by decide) rfl) ?_
  refine ex_s (fun _ => ev_iconst dX11_carryOutText_7 ic0) ?_
  refine ex_s (fun _ => ev_ist1 dX11_carryOutText_8 (by decide) rfl) ?_
  have lp : ∀ (n9 k : Nat) (x : WS) (p : Nat) (T : ST), k + n9 = 60 → fErr n t n9 p = none → rnC S 0 (cms n t 60 0) = rnC T k (cms n t n9 p) → x.1 106 1 = nI p → p ≤ n → cm_ T x → kA K x → frG [(1, 11), (102, 103), (106, 106), (109, 111)] w x → Ex G 7 0 mX11_carryOutText 9 [some (.ref 0), some (.int (nI k)), none] [] x (pCT n t S K w) := by
    intro n9
    induction n9 with
    | zero =>
      intro k x p T hi9 hE hR hx hpn hT hK hf
      cases hE
    | succ n9 ih =>
      intro k x p T hi9 hE hR hx hpn hT hK hf
      refine ex_s (fun _ => ev_iload_n dX11_carryOutText_9 rfl) ?_
      refine ex_s (fun _ => ev_bipush (v := nI 60) dX11_carryOutText_10 (by decide)) ?_
      refine ex_s (fun _ => ev_icmp_ge_f (tgt := 120) dX11_carryOutText_12 (by decide) (nI_ge (by omega) (by decide))) ?_
      refine ex_s (fun _ => ev_aload_n dX11_carryOutText_15 rfl) ?_
      refine ex_s (fun _ => ev_getR fX11_39 dX11_carryOutText_16 (by decide) sh0 rfl) ?_
      refine ex_s (fun _ => ev_aload_n dX11_carryOutText_19 rfl) ?_
      refine ex_s (fun _ => ev_getR fX11_32 dX11_carryOutText_20 (by decide) sh0 rfl) ?_
      have hix := inG hi hf (by decide)
      obtain ⟨c, q, e1, hq⟩ := fErr_s hE
      obtain ⟨b1, b2, b3⟩ := cmdAt_ok e1 hpn
      obtain ⟨hok, -⟩ := b3 c rfl
      obtain ⟨_, w3, ⟨rfl, g1, g2, g3⟩, hB3⟩ := qX7_takeCommand (G := G) hix hx hpn
      rw [e1] at g1 g3 hB3
      replace hB3 : Big G 5 0 mX7_takeCommand [.ref 106, .ref 102] x (.inl (some (.int (bI true)))) w3 := hB3
      have f3 : frG [(102, 103), (106, 106)] x w3 := frG_L g2 (by decide)
      have hT3 := cmG hT f3 (by decide)
      have hC3 : hC_ w3 c := g3 c rfl
      have hK3 := kG hK f3 (by decide)
      have fw3 := frG_tr hf (frG_mo f3 (R2 := [(1, 11), (102, 103), (106, 106), (109, 111)]) (by decide))
      have hcs : cms n t (n9 + 1) p = c :: (if q = n then [] else cms n t n9 (q + 1)) := by
        rw [cms, e1]
        dsimp only
        split
        · rfl
        · rfl
      refine ex_s (fun _ => ev_callV kX11_415 co106 hB3 dX11_carryOutText_23 rfl (by decide) (by decide) rfl) ?_
      refine ex_s (fun _ => ev_if_eq_f (tgt := 43) dX11_carryOutText_26 (by decide) (by decide)) ?_
      refine ex_s (fun _ => ev_aload_n dX11_carryOutText_29 rfl) ?_
      refine ex_s (fun _ => ev_getR fX11_10 dX11_carryOutText_30 (by decide) sh0 rfl) ?_
      refine ex_s (fun _ => ev_aload_n dX11_carryOutText_33 rfl) ?_
      refine ex_s (fun _ => ev_getR fX11_32 dX11_carryOutText_34 (by decide) sh0 rfl) ?_
      refine ex_s (fun _ => ev_callS kX11_418 (qX5_isThere hT3 hC3 hok) dX11_carryOutText_37 rfl (by decide) (by decide) rfl) ?_
      refine ex_b1 (fun _ => ev_ifb_ne (tgt := 45) dX11_carryOutText_40 (by decide)) (fun hc40 => ?_) (fun hc40 => ?_)
      · have hth : ¬ thC T c = false := by rw [hc40]; decide
        refine ex_s (fun _ => ev_aload_n dX11_carryOutText_45 rfl) ?_
        refine ex_s (fun _ => ev_getR fX11_10 dX11_carryOutText_46 (by decide) sh0 rfl) ?_
        refine ex_s (fun _ => ev_aload_n dX11_carryOutText_49 rfl) ?_
        refine ex_s (fun _ => ev_getR fX11_32 dX11_carryOutText_50 (by decide) sh0 rfl) ?_
        refine ex_s (fun _ => ev_callS kX11_399 (qX5_against hT3 hC3 hc40) dX11_carryOutText_53 rfl (by decide) (by decide) rfl) ?_
        refine ex_s (fun _ => ev_ist2 dX11_carryOutText_56 (by decide) rfl) ?_
        refine ex_s (fun _ => ev_iload_n dX11_carryOutText_57 rfl) ?_
        refine ex_bp (fun _ => ev_if_eq (tgt := 86) dX11_carryOutText_58 (by decide)) (fun hc58 => ?_) (fun hc58 => ?_)
        · have e58 : grC T c = 0 := nI_inj (by have := grC_le (S := T) (q := c); omega) (by decide) hc58
          obtain ⟨w4, hB4, j1, j2⟩ := qX1_carryOut (G := G) hT3 hC3 hok hc40 e58
          have f4 : frG [(1, 11)] w3 w4 := frG_1 j2 (by decide)
          have hT4 : cm_ (cdo T c) w4 := ⟨j1, ok_do hT3.2 hok hc40 e58⟩
          have hi4 : inA n t w4 := inG (inG hix f3 (by decide)) f4 (by decide)
          have g4 : w4.1 106 1 = nI q := by rw [frG_in f4 (lo := 106) (hi := 106) (by decide) (Nat.le_refl _) (Nat.le_refl _)]; exact g1
          have fw4 := frG_tr fw3 (frG_mo f4 (R2 := [(1, 11), (102, 103), (106, 106), (109, 111)]) (by decide))
          have hr4 : rnC T k (c :: (if q = n then [] else cms n t n9 (q + 1))) = rnC (cdo T c) (k + 1) (if q = n then [] else cms n t n9 (q + 1)) := by rw [rnC, if_neg hth, if_neg (fun z => z e58)]
          refine ex_s (fun _ => ev_aload_n dX11_carryOutText_86 rfl) ?_
          refine ex_s (fun _ => ev_getR fX11_10 dX11_carryOutText_87 (by decide) sh0 rfl) ?_
          refine ex_s (fun _ => ev_aload_n dX11_carryOutText_90 rfl) ?_
          refine ex_s (fun _ => ev_getR fX11_32 dX11_carryOutText_91 (by decide) sh0 rfl) ?_
          refine ex_s (fun _ => ev_callV kX11_409 co1 hB4 dX11_carryOutText_94 rfl (by decide) (by decide) rfl) ?_
          refine ex_s (fun _ => ev_pop dX11_carryOutText_97 rfl) ?_
          refine ex_s (fun _ => ev_aload_n dX11_carryOutText_98 rfl) ?_
          refine ex_s (fun _ => ev_getR fX11_39 dX11_carryOutText_99 (by decide) sh0 rfl) ?_
          refine ex_s (fun _ => ev_bipush (v := nI 59) dX11_carryOutText_102 (by decide)) ?_
          refine ex_s (fun _ => ev_callV kX11_426 co106 (qX7_takeSign hi4 g4 b2 (by decide)) dX11_carryOutText_104 rfl (by decide) (by decide) rfl) ?_
          refine ex_b1 (fun _ => ev_ifb_ne (tgt := 114) dX11_carryOutText_107 (by decide)) (fun hc107 => ?_) (fun hc107 => ?_)
          · rw [pSg_t hc107]
            have hql := tSg_lt hc107
            have hqn : ¬ q = n := by omega
            refine ex_s (fun _ => ev_iinc1 dX11_carryOutText_114 (nI_inc _) (by decide) rfl) ?_
            refine ex_s (fun _ => ev_goto (tgt := 9) dX11_carryOutText_117 (by decide)) ?_
            refine ex_s (fun _ => ev_fg2) ?_
            have f5 : frG [(106, 106)] w4 (wPl w4 (q + 1)) := frG_cs frG_rf (by decide) _
            exact ih (k + 1) _ (q + 1) (cdo T c) (by omega) (hq.resolve_left hqn).2.2 (hR.trans (by rw [hcs, hr4, if_neg hqn])) rfl hql (cmG hT4 f5 (by decide)) (kG (kG hK3 f4 (by decide)) f5 (by decide)) (frG_tr fw4 (frG_mo f5 (by decide)))
          · rw [pSg_f hc107, wPl_id g4]
            have hqn : q = n := hq.resolve_right (fun z => by rw [z.2.1] at hc107; cases hc107)
            refine ex_s (fun _ => ev_iload_n dX11_carryOutText_110 rfl) ?_
            refine ex_s (fun _ => ev_iconst dX11_carryOutText_111 ic1) ?_
            refine ex_s (fun _ => ev_iadd dX11_carryOutText_112) ?_
            refine ex_s (fun _ => ev_top (nI_add _ _)) ?_
            exact ⟨_, _, (by exact pCT_of (z := none) (hR.trans (by rw [hcs, hr4, if_pos hqn, rnC])) rfl hT4 (kG hK3 f4 (by decide)) fw4), ev_iret dX11_carryOutText_113 rfl rfl rfl rfl⟩
        · have e58 : grC T c ≠ 0 := fun z => hc58 (by rw [z]; rfl)
          have hK0 := kA_s (kA_0 (w := w3)) (by decide) (nI 10) (nI k)
          have fk : frG [(109, 111)] w3 (wKa (wKc w3) 0 (nI 10) (nI k)) := frG_tr fr_wKc fr_wKa
          obtain ⟨_, w4, ⟨rfl, j1, j2⟩, hB4⟩ := qX11_keep (G := G) (w := wKa (wKc w3) 0 (nI 10) (nI k)) (cmG hT3 fk (by decide)) (hCG hC3 fk (by decide)) hc40 rfl e58 hK0 (Nat.le_refl 1)
          refine ex_s (fun _ => ev_aload_n dX11_carryOutText_61 rfl) ?_
          refine ex_s (fun _ => ev_getR fX11_59 dX11_carryOutText_62 (by decide) sh0 rfl) ?_
          refine ex_s (fun _ => ev_callV kX11_403 co109 qX8_clear dX11_carryOutText_65 rfl (by decide) (by decide) rfl) ?_
          refine ex_s (fun _ => ev_aload_n dX11_carryOutText_68 rfl) ?_
          refine ex_s (fun _ => ev_getR fX11_59 dX11_carryOutText_69 (by decide) sh0 rfl) ?_
          refine ex_s (fun _ => ev_bipush (v := nI 10) dX11_carryOutText_72 (by decide)) ?_
          refine ex_s (fun _ => ev_iload_n dX11_carryOutText_74 rfl) ?_
          refine ex_s (fun _ => ev_callV kX11_422 co109 (qX8_add (w := wKc w3) (n := 0) rfl (by decide)) dX11_carryOutText_75 rfl (by decide) (by decide) rfl) ?_
          refine ex_s (fun _ => ev_aload_n dX11_carryOutText_78 rfl) ?_
          refine ex_s (fun _ => ev_iload_n dX11_carryOutText_79 rfl) ?_
          refine ex_s (fun _ => ev_callV kX11_404 co0 hB4 dX11_carryOutText_80 rfl (by decide) (by decide) rfl) ?_
          refine ex_s (fun _ => ev_bipush (v := -2) dX11_carryOutText_83 (by decide)) ?_
          exact ⟨_, _, (by exact pCT_of (z := some ((nI 10, nI k) :: kpC T c)) (hR.trans (by rw [hcs, rnC, if_neg hth, if_pos e58])) rfl (cmG hT3 (frG_tr fk j2) (by decide)) j1 (frG_tr fw3 (frG_mo (frG_tr fk j2) (by decide)))), ev_iret dX11_carryOutText_85 rfl rfl rfl rfl⟩
      · refine ex_s (fun _ => ev_iconst dX11_carryOutText_43 icm1) ?_
        exact ⟨_, _, (by exact pCT_of (z := none) (hR.trans (by rw [hcs, rnC, if_pos hc40])) rfl hT3 hK3 fw3), ev_iret dX11_carryOutText_44 rfl rfl rfl rfl⟩
  exact lp 60 0 (wPl w 0) 0 S rfl he rfl rfl (Nat.zero_le _) (cmG hS (frG_cs frG_rf (by decide) _ : frG [(106, 106)] w (wPl w 0)) (by decide)) (kG hK (frG_cs frG_rf (by decide) _ : frG [(106, 106)] w (wPl w 0)) (by decide)) (frG_cs frG_rf (by decide) _)
/-! orders -/
theorem cmp_0 {x y : Int32} : cmp_ x y = 0 ↔ x = y := by
  unfold cmp_
  by_cases h : x < y
  · rw [if_pos h]; exact ⟨fun q => absurd q (by decide), fun q => by subst q; exact absurd h Int32.lt_irrefl⟩
  · rw [if_neg h]
    by_cases h2 : x = y
    · rw [if_pos h2]; exact ⟨fun _ => h2, fun _ => rfl⟩
    · rw [if_neg h2]; exact ⟨fun q => absurd q (by decide), fun q => absurd q h2⟩
theorem cmp_l {x y : Int32} : cmp_ x y ≤ 0 ↔ ¬ y < x := by
  unfold cmp_
  by_cases h : x < y
  · rw [if_pos h]; exact ⟨fun _ q => Int32.lt_irrefl (Int32.lt_trans h q), fun _ => by decide⟩
  · rw [if_neg h]
    by_cases h2 : x = y
    · subst h2; rw [if_pos rfl]; exact ⟨fun _ => h, fun _ => by decide⟩
    · rw [if_neg h2]
      refine ⟨fun q => absurd q (by decide), fun q => absurd ?_ h2⟩
      exact Int32.le_antisymm (Int32.not_lt.mp q) (Int32.not_lt.mp h)
/-- a comes ahead of b -/
def ahd (f g : Nat → Int32) (a b : Nat) : Bool := if f a = f b then (if g a = g b then decide (a < b) else decide (g b < g a)) else decide (f b < f a)
theorem ahd_rf {f g : Nat → Int32} {a : Nat} : ahd f g a a = false := by
  unfold ahd
  rw [if_pos rfl, if_pos rfl]
  exact decide_eq_false (Nat.lt_irrefl _)
def rk (f g : Nat → Int32) (n a : Nat) : Nat := ct (fun o => ahd f g o a) n
def plc (f g : Nat → Int32) (n : Nat) (x : Int32) : Option Nat := (List.range n).find? (fun a => nI (rk f g n a) == x)
def fR (S : ST) (a : Nat) : Int32 := nI (cO S (nI a))
def fV (S : ST) (i : Nat) : Int32 := nI (wgt S i)
def gV (S : ST) (i : Nat) : Int32 := nI (rN S i)
set_option maxRecDepth 4000 in
theorem qX11_isRealmAhead {G : GX} {w : WS} {S : ST} (hS : cm_ S w) {a b : Nat} (ha : a < 4) (hb : b < 4) : Big G 5 0 mX11_isRealmAhead [.ref 0, .int (nI a), .int (nI b)] w (.inl (some (.int (bI (ahd (fR S) (sC S) a b))))) w := by
  refine big_of (by decide +kernel) (Nat.le_of_ble_eq_true rfl) ?_
  have hk5 := hS.2.2.1.1
  show Ev G 5 0 mX11_isRealmAhead 0 [some (.ref 0), some (.int (nI a)), some (.int (nI b)), none, none] [] w _
  refine ev_aload_n dX11_isRealmAhead_0 rfl ?_
  refine ev_getR fX11_10 dX11_isRealmAhead_1 (by decide) sh0 rfl ?_
  refine ev_iload_n dX11_isRealmAhead_4 rfl ?_
  refine ev_callV kX11_134 co1 (qX1_cellsOf hS) dX11_isRealmAhead_5 rfl (by decide) (by decide) rfl ?_
  refine ev_aload_n dX11_isRealmAhead_8 rfl ?_
  refine ev_getR fX11_10 dX11_isRealmAhead_9 (by decide) sh0 rfl ?_
  refine ev_iload_n dX11_isRealmAhead_12 rfl ?_
  refine ev_callV kX11_134 co1 (qX1_cellsOf hS) dX11_isRealmAhead_13 rfl (by decide) (by decide) rfl ?_
  refine ev_callS kX11_443 qJ6_compare dX11_isRealmAhead_16 rfl (by decide) (by decide) rfl ?_
  refine ev_ist3 dX11_isRealmAhead_19 (by decide) rfl ?_
  refine ev_iload_n dX11_isRealmAhead_20 rfl ?_
  refine ev_if_eq (tgt := 34) dX11_isRealmAhead_21 (by decide) (fun hc21 => ?_) (fun hc21 => ?_)
  · have e21 : (fR S) a = (fR S) b := cmp_0.mp hc21
    refine ev_aload_n dX11_isRealmAhead_34 rfl ?_
    refine ev_getR fX11_10 dX11_isRealmAhead_35 (by decide) sh0 rfl ?_
    refine ev_iload_n dX11_isRealmAhead_38 rfl ?_
    refine ev_callV kX11_448 co1 (qX1_coinsOf_y hS ha) dX11_isRealmAhead_39 rfl (by decide) (by decide) rfl ?_
    refine ev_aload_n dX11_isRealmAhead_42 rfl ?_
    refine ev_getR fX11_10 dX11_isRealmAhead_43 (by decide) sh0 rfl ?_
    refine ev_iload_n dX11_isRealmAhead_46 rfl ?_
    refine ev_callV kX11_448 co1 (qX1_coinsOf_y hS hb) dX11_isRealmAhead_47 rfl (by decide) (by decide) rfl ?_
    refine ev_callS kX11_443 qJ6_compare dX11_isRealmAhead_50 rfl (by decide) (by decide) rfl ?_
    refine ev_ist4 dX11_isRealmAhead_53 (by decide) rfl ?_
    refine ev_iload dX11_isRealmAhead_55 rfl ?_
    refine ev_if_eq (tgt := 73) dX11_isRealmAhead_57 (by decide) (fun hc57 => ?_) (fun hc57 => ?_)
    · have e57 : (sC S) a = (sC S) b := cmp_0.mp hc57
      refine ev_iload_n dX11_isRealmAhead_73 rfl ?_
      refine ev_iload_n dX11_isRealmAhead_74 rfl ?_
      refine ev_icmp_ge (tgt := 82) dX11_isRealmAhead_75 (by decide) (fun hc75 => ?_) (fun hc75 => ?_)
      · have e75 : ¬ a < b := fun q => nI_ge q (by omega) hc75
        refine ev_iconst dX11_isRealmAhead_82 ic0 ?_
        exact ev_iret dX11_isRealmAhead_83 rfl rfl (obF (by unfold ahd; rw [if_pos e21, if_pos e57]; exact decide_eq_false e75)) rfl
      · have e75 : a < b := Nat.lt_of_not_le (fun q => hc75 (nI_le q (by omega)))
        refine ev_iconst dX11_isRealmAhead_78 ic1 ?_
        refine ev_goto (tgt := 83) dX11_isRealmAhead_79 (by decide) ?_
        exact ev_iret dX11_isRealmAhead_83 rfl rfl (obT (by unfold ahd; rw [if_pos e21, if_pos e57]; exact decide_eq_true e75)) rfl
    · have e57 : ¬ (sC S) a = (sC S) b := fun q => hc57 (cmp_0.mpr q)
      refine ev_iload dX11_isRealmAhead_60 rfl ?_
      refine ev_if_le (tgt := 69) dX11_isRealmAhead_62 (by decide) (fun hc62 => ?_) (fun hc62 => ?_)
      · refine ev_iconst dX11_isRealmAhead_69 ic0 ?_
        refine ev_goto (tgt := 83) dX11_isRealmAhead_70 (by decide) ?_
        exact ev_iret dX11_isRealmAhead_83 rfl rfl (obF (by unfold ahd; rw [if_pos e21, if_neg e57]; exact decide_eq_false (cmp_l.mp hc62))) rfl
      · refine ev_iconst dX11_isRealmAhead_65 ic1 ?_
        refine ev_goto (tgt := 83) dX11_isRealmAhead_66 (by decide) ?_
        exact ev_iret dX11_isRealmAhead_83 rfl rfl (obT (by unfold ahd; rw [if_pos e21, if_neg e57]; exact decide_eq_true (Decidable.not_not.mp (fun q => hc62 (cmp_l.mpr q))))) rfl
  · have e21 : ¬ (fR S) a = (fR S) b := fun q => hc21 (cmp_0.mpr q)
    refine ev_iload_n dX11_isRealmAhead_24 rfl ?_
    refine ev_if_le (tgt := 32) dX11_isRealmAhead_25 (by decide) (fun hc25 => ?_) (fun hc25 => ?_)
    · refine ev_iconst dX11_isRealmAhead_32 ic0 ?_
      exact ev_iret dX11_isRealmAhead_33 rfl rfl (obF (by unfold ahd; rw [if_neg e21]; exact decide_eq_false (cmp_l.mp hc25))) rfl
    · refine ev_iconst dX11_isRealmAhead_28 ic1 ?_
      refine ev_goto (tgt := 33) dX11_isRealmAhead_29 (by decide) ?_
      exact ev_iret dX11_isRealmAhead_33 rfl rfl (obT (by unfold ahd; rw [if_neg e21]; exact decide_eq_true (Decidable.not_not.mp (fun q => hc25 (cmp_l.mpr q))))) rfl
set_option maxRecDepth 4000 in
theorem qX11_isRiverAhead {G : GX} {w : WS} {S : ST} (hS : cm_ S w) {a b : Nat} (ha : a < nR S) (hb : b < nR S) : Big G 5 0 mX11_isRiverAhead [.ref 0, .int (nI a), .int (nI b)] w (.inl (some (.int (bI (ahd (fV S) (gV S) a b))))) w := by
  refine big_of (by decide +kernel) (Nat.le_of_ble_eq_true rfl) ?_
  have hk5 := hS.2.2.1.1
  show Ev G 5 0 mX11_isRiverAhead 0 [some (.ref 0), some (.int (nI a)), some (.int (nI b)), none, none] [] w _
  refine ev_aload_n dX11_isRiverAhead_0 rfl ?_
  refine ev_getR fX11_10 dX11_isRiverAhead_1 (by decide) sh0 rfl ?_
  refine ev_iload_n dX11_isRiverAhead_4 rfl ?_
  refine ev_callS kX11_192 (qX10_weightByCells hS ha) dX11_isRiverAhead_5 rfl (by decide) (by decide) rfl ?_
  refine ev_aload_n dX11_isRiverAhead_8 rfl ?_
  refine ev_getR fX11_10 dX11_isRiverAhead_9 (by decide) sh0 rfl ?_
  refine ev_iload_n dX11_isRiverAhead_12 rfl ?_
  refine ev_callS kX11_192 (qX10_weightByCells hS hb) dX11_isRiverAhead_13 rfl (by decide) (by decide) rfl ?_
  refine ev_callS kX11_443 qJ6_compare dX11_isRiverAhead_16 rfl (by decide) (by decide) rfl ?_
  refine ev_ist3 dX11_isRiverAhead_19 (by decide) rfl ?_
  refine ev_iload_n dX11_isRiverAhead_20 rfl ?_
  refine ev_if_eq (tgt := 34) dX11_isRiverAhead_21 (by decide) (fun hc21 => ?_) (fun hc21 => ?_)
  · have e21 : (fV S) a = (fV S) b := cmp_0.mp hc21
    refine ev_aload_n dX11_isRiverAhead_34 rfl ?_
    refine ev_getR fX11_10 dX11_isRiverAhead_35 (by decide) sh0 rfl ?_
    refine ev_iload_n dX11_isRiverAhead_38 rfl ?_
    refine ev_callV kX11_158 co1 (qX1_stepsOf hS ha) dX11_isRiverAhead_39 rfl (by decide) (by decide) rfl ?_
    refine ev_aload_n dX11_isRiverAhead_42 rfl ?_
    refine ev_getR fX11_10 dX11_isRiverAhead_43 (by decide) sh0 rfl ?_
    refine ev_iload_n dX11_isRiverAhead_46 rfl ?_
    refine ev_callV kX11_158 co1 (qX1_stepsOf hS hb) dX11_isRiverAhead_47 rfl (by decide) (by decide) rfl ?_
    refine ev_callS kX11_443 qJ6_compare dX11_isRiverAhead_50 rfl (by decide) (by decide) rfl ?_
    refine ev_ist4 dX11_isRiverAhead_53 (by decide) rfl ?_
    refine ev_iload dX11_isRiverAhead_55 rfl ?_
    refine ev_if_eq (tgt := 73) dX11_isRiverAhead_57 (by decide) (fun hc57 => ?_) (fun hc57 => ?_)
    · have e57 : (gV S) a = (gV S) b := cmp_0.mp hc57
      refine ev_iload_n dX11_isRiverAhead_73 rfl ?_
      refine ev_iload_n dX11_isRiverAhead_74 rfl ?_
      refine ev_icmp_ge (tgt := 82) dX11_isRiverAhead_75 (by decide) (fun hc75 => ?_) (fun hc75 => ?_)
      · have e75 : ¬ a < b := fun q => nI_ge q (by omega) hc75
        refine ev_iconst dX11_isRiverAhead_82 ic0 ?_
        exact ev_iret dX11_isRiverAhead_83 rfl rfl (obF (by unfold ahd; rw [if_pos e21, if_pos e57]; exact decide_eq_false e75)) rfl
      · have e75 : a < b := Nat.lt_of_not_le (fun q => hc75 (nI_le q (by omega)))
        refine ev_iconst dX11_isRiverAhead_78 ic1 ?_
        refine ev_goto (tgt := 83) dX11_isRiverAhead_79 (by decide) ?_
        exact ev_iret dX11_isRiverAhead_83 rfl rfl (obT (by unfold ahd; rw [if_pos e21, if_pos e57]; exact decide_eq_true e75)) rfl
    · have e57 : ¬ (gV S) a = (gV S) b := fun q => hc57 (cmp_0.mpr q)
      refine ev_iload dX11_isRiverAhead_60 rfl ?_
      refine ev_if_le (tgt := 69) dX11_isRiverAhead_62 (by decide) (fun hc62 => ?_) (fun hc62 => ?_)
      · refine ev_iconst dX11_isRiverAhead_69 ic0 ?_
        refine ev_goto (tgt := 83) dX11_isRiverAhead_70 (by decide) ?_
        exact ev_iret dX11_isRiverAhead_83 rfl rfl (obF (by unfold ahd; rw [if_pos e21, if_neg e57]; exact decide_eq_false (cmp_l.mp hc62))) rfl
      · refine ev_iconst dX11_isRiverAhead_65 ic1 ?_
        refine ev_goto (tgt := 83) dX11_isRiverAhead_66 (by decide) ?_
        exact ev_iret dX11_isRiverAhead_83 rfl rfl (obT (by unfold ahd; rw [if_pos e21, if_neg e57]; exact decide_eq_true (Decidable.not_not.mp (fun q => hc62 (cmp_l.mpr q))))) rfl
  · have e21 : ¬ (fV S) a = (fV S) b := fun q => hc21 (cmp_0.mpr q)
    refine ev_iload_n dX11_isRiverAhead_24 rfl ?_
    refine ev_if_le (tgt := 32) dX11_isRiverAhead_25 (by decide) (fun hc25 => ?_) (fun hc25 => ?_)
    · refine ev_iconst dX11_isRiverAhead_32 ic0 ?_
      exact ev_iret dX11_isRiverAhead_33 rfl rfl (obF (by unfold ahd; rw [if_neg e21]; exact decide_eq_false (cmp_l.mp hc25))) rfl
    · refine ev_iconst dX11_isRiverAhead_28 ic1 ?_
      refine ev_goto (tgt := 33) dX11_isRiverAhead_29 (by decide) ?_
      exact ev_iret dX11_isRiverAhead_33 rfl rfl (obT (by unfold ahd; rw [if_neg e21]; exact decide_eq_true (Decidable.not_not.mp (fun q => hc25 (cmp_l.mpr q))))) rfl
set_option maxRecDepth 4000 in
theorem qX11_rankOfRealm {G : GX} {w : WS} {S : ST} (hS : cm_ S w) {a : Nat} (ha : a < 4) : Big G 6 0 mX11_rankOfRealm [.ref 0, .int (nI a)] w (.inl (some (.int (nI (rk (fR S) (sC S) 4 a))))) w := by
  refine big_of (by decide +kernel) (Nat.le_of_ble_eq_true rfl) ?_
  have hk5 := hS.2.2.1.1
  have hRn : w.1 1 10 = nI (nR S) := hS.1.2.2.1
  show Ev G 6 0 mX11_rankOfRealm 0 [some (.ref 0), some (.int (nI a)), none, none] [] w _
  refine ev_iconst dX11_rankOfRealm_0 ic0 ?_
  refine ev_ist2 dX11_rankOfRealm_1 (by decide) rfl ?_
  refine ev_iconst dX11_rankOfRealm_2 ic0 ?_
  refine ev_ist3 dX11_rankOfRealm_3 (by decide) rfl ?_
  have lp : ∀ (n9 j : Nat) , j + n9 = 4 → Ev G 6 0 mX11_rankOfRealm 4 [some (.ref 0), some (.int (nI a)), some (.int (nI (ct (fun o => ahd (fR S) (sC S) o a) j))), some (.int (nI j))] [] w (zu_ G (.inl (some (.int (nI (rk (fR S) (sC S) 4 a))))) w) := by
    intro n9
    induction n9 with
    | zero =>
      intro j  hi9 
      refine ev_iload_n dX11_rankOfRealm_4 rfl ?_
      refine ev_iconst dX11_rankOfRealm_5 ic4 ?_
      refine ev_icmp_ge_t (tgt := 32) dX11_rankOfRealm_6 (by decide) (nI_le (by omega) (by omega)) ?_
      refine ev_iload_n dX11_rankOfRealm_32 rfl ?_
      exact ev_iret dX11_rankOfRealm_33 rfl rfl (by rw [show j = 4 by omega]; rfl) rfl
    | succ n9 ih =>
      intro j  hi9 
      refine ev_iload_n dX11_rankOfRealm_4 rfl ?_
      refine ev_iconst dX11_rankOfRealm_5 ic4 ?_
      refine ev_icmp_ge_f (tgt := 32) dX11_rankOfRealm_6 (by decide) (nI_ge (by omega) (by omega)) ?_
      refine ev_iload_n dX11_rankOfRealm_9 rfl ?_
      refine ev_iload_n dX11_rankOfRealm_10 rfl ?_
      refine ev_icmp_eq (tgt := 26) dX11_rankOfRealm_11 (by decide) (fun hc11 => ?_) (fun hc11 => ?_)
      · have e0 : ahd (fR S) (sC S) j a = false := by
          rw [nI_inj (by omega) (by omega) hc11]
          exact ahd_rf
        rw [show ct (fun o => ahd (fR S) (sC S) o a) j = ct (fun o => ahd (fR S) (sC S) o a) (j + 1) from (ct_f (p := fun o => ahd (fR S) (sC S) o a) e0).symm]
        refine ev_iinc3 dX11_rankOfRealm_26 (nI_inc _) (by decide) rfl ?_
        refine ev_goto (tgt := 4) dX11_rankOfRealm_29 (by decide) ?_
        exact ih (j + 1) (by omega)
      · refine ev_aload_n dX11_rankOfRealm_14 rfl ?_
        refine ev_iload_n dX11_rankOfRealm_15 rfl ?_
        refine ev_iload_n dX11_rankOfRealm_16 rfl ?_
        refine ev_callV kX11_439 co0 (qX11_isRealmAhead hS (by omega) ha) dX11_rankOfRealm_17 rfl (by decide) (by decide) rfl ?_
        refine ev_ifb_eq (tgt := 26) dX11_rankOfRealm_20 (by decide) (fun hc20 => ?_) (fun hc20 => ?_)
        · rw [show ct (fun o => ahd (fR S) (sC S) o a) j = ct (fun o => ahd (fR S) (sC S) o a) (j + 1) from (ct_f (p := fun o => ahd (fR S) (sC S) o a) hc20).symm]
          refine ev_iinc3 dX11_rankOfRealm_26 (nI_inc _) (by decide) rfl ?_
          refine ev_goto (tgt := 4) dX11_rankOfRealm_29 (by decide) ?_
          exact ih (j + 1) (by omega)
        · refine ev_iinc2 dX11_rankOfRealm_23 (nI_inc _) (by decide) rfl ?_
          rw [show ct (fun o => ahd (fR S) (sC S) o a) j + 1 = ct (fun o => ahd (fR S) (sC S) o a) (j + 1) from (ct_t (p := fun o => ahd (fR S) (sC S) o a) hc20).symm]
          refine ev_iinc3 dX11_rankOfRealm_26 (nI_inc _) (by decide) rfl ?_
          refine ev_goto (tgt := 4) dX11_rankOfRealm_29 (by decide) ?_
          exact ih (j + 1) (by omega)
  exact lp 4 0 (Nat.zero_add _)
set_option maxRecDepth 4000 in
theorem qX11_rankOfRiver {G : GX} {w : WS} {S : ST} (hS : cm_ S w) {a : Nat} (ha : a < (nR S)) : Big G 6 0 mX11_rankOfRiver [.ref 0, .int (nI a)] w (.inl (some (.int (nI (rk (fV S) (gV S) (nR S) a))))) w := by
  refine big_of (by decide +kernel) (Nat.le_of_ble_eq_true rfl) ?_
  have hk5 := hS.2.2.1.1
  have hRn : w.1 1 10 = nI (nR S) := hS.1.2.2.1
  show Ev G 6 0 mX11_rankOfRiver 0 [some (.ref 0), some (.int (nI a)), none, none] [] w _
  refine ev_iconst dX11_rankOfRiver_0 ic0 ?_
  refine ev_ist2 dX11_rankOfRiver_1 (by decide) rfl ?_
  refine ev_iconst dX11_rankOfRiver_2 ic0 ?_
  refine ev_ist3 dX11_rankOfRiver_3 (by decide) rfl ?_
  have lp : ∀ (n9 j : Nat) , j + n9 = (nR S) → Ev G 6 0 mX11_rankOfRiver 4 [some (.ref 0), some (.int (nI a)), some (.int (nI (ct (fun o => ahd (fV S) (gV S) o a) j))), some (.int (nI j))] [] w (zu_ G (.inl (some (.int (nI (rk (fV S) (gV S) (nR S) a))))) w) := by
    intro n9
    induction n9 with
    | zero =>
      intro j  hi9 
      refine ev_iload_n dX11_rankOfRiver_4 rfl ?_
      refine ev_aload_n dX11_rankOfRiver_5 rfl ?_
      refine ev_getR fX11_10 dX11_rankOfRiver_6 (by decide) sh0 rfl ?_
      refine ev_getI fX11_236 dX11_rankOfRiver_9 (by decide) sh1 rfl ?_
      refine ev_top hRn ?_
      refine ev_icmp_ge_t (tgt := 38) dX11_rankOfRiver_12 (by decide) (nI_le (by omega) (by omega)) ?_
      refine ev_iload_n dX11_rankOfRiver_38 rfl ?_
      exact ev_iret dX11_rankOfRiver_39 rfl rfl (by rw [show j = (nR S) by omega]; rfl) rfl
    | succ n9 ih =>
      intro j  hi9 
      refine ev_iload_n dX11_rankOfRiver_4 rfl ?_
      refine ev_aload_n dX11_rankOfRiver_5 rfl ?_
      refine ev_getR fX11_10 dX11_rankOfRiver_6 (by decide) sh0 rfl ?_
      refine ev_getI fX11_236 dX11_rankOfRiver_9 (by decide) sh1 rfl ?_
      refine ev_top hRn ?_
      refine ev_icmp_ge_f (tgt := 38) dX11_rankOfRiver_12 (by decide) (nI_ge (by omega) (by omega)) ?_
      refine ev_iload_n dX11_rankOfRiver_15 rfl ?_
      refine ev_iload_n dX11_rankOfRiver_16 rfl ?_
      refine ev_icmp_eq (tgt := 32) dX11_rankOfRiver_17 (by decide) (fun hc17 => ?_) (fun hc17 => ?_)
      · have e0 : ahd (fV S) (gV S) j a = false := by
          rw [nI_inj (by omega) (by omega) hc17]
          exact ahd_rf
        rw [show ct (fun o => ahd (fV S) (gV S) o a) j = ct (fun o => ahd (fV S) (gV S) o a) (j + 1) from (ct_f (p := fun o => ahd (fV S) (gV S) o a) e0).symm]
        refine ev_iinc3 dX11_rankOfRiver_32 (nI_inc _) (by decide) rfl ?_
        refine ev_goto (tgt := 4) dX11_rankOfRiver_35 (by decide) ?_
        exact ih (j + 1) (by omega)
      · refine ev_aload_n dX11_rankOfRiver_20 rfl ?_
        refine ev_iload_n dX11_rankOfRiver_21 rfl ?_
        refine ev_iload_n dX11_rankOfRiver_22 rfl ?_
        refine ev_callV kX11_451 co0 (qX11_isRiverAhead hS (by omega) ha) dX11_rankOfRiver_23 rfl (by decide) (by decide) rfl ?_
        refine ev_ifb_eq (tgt := 32) dX11_rankOfRiver_26 (by decide) (fun hc26 => ?_) (fun hc26 => ?_)
        · rw [show ct (fun o => ahd (fV S) (gV S) o a) j = ct (fun o => ahd (fV S) (gV S) o a) (j + 1) from (ct_f (p := fun o => ahd (fV S) (gV S) o a) hc26).symm]
          refine ev_iinc3 dX11_rankOfRiver_32 (nI_inc _) (by decide) rfl ?_
          refine ev_goto (tgt := 4) dX11_rankOfRiver_35 (by decide) ?_
          exact ih (j + 1) (by omega)
        · refine ev_iinc2 dX11_rankOfRiver_29 (nI_inc _) (by decide) rfl ?_
          rw [show ct (fun o => ahd (fV S) (gV S) o a) j + 1 = ct (fun o => ahd (fV S) (gV S) o a) (j + 1) from (ct_t (p := fun o => ahd (fV S) (gV S) o a) hc26).symm]
          refine ev_iinc3 dX11_rankOfRiver_32 (nI_inc _) (by decide) rfl ?_
          refine ev_goto (tgt := 4) dX11_rankOfRiver_35 (by decide) ?_
          exact ih (j + 1) (by omega)
  exact lp (nR S) 0 (Nat.zero_add _)
set_option maxRecDepth 4000 in
theorem qX11_areWeightsAlike {G : GX} {w : WS} {S : ST} (hS : cm_ S w) : Big G 5 0 mX11_areWeightsAlike [.ref 0] w (.inl (some (.int (nI 1)))) w := by
  refine big_of (by decide +kernel) (Nat.le_of_ble_eq_true rfl) ?_
  have hk5 := hS.2.2.1.1
  have hRn : w.1 1 10 = nI (nR S) := hS.1.2.2.1
  show Ev G 5 0 mX11_areWeightsAlike 0 [some (.ref 0), none] [] w _
  refine ev_iconst dX11_areWeightsAlike_0 ic0 ?_
  refine ev_ist1 dX11_areWeightsAlike_1 (by decide) rfl ?_
  have lp : ∀ (n9 j : Nat) , j + n9 = nR S → Ev G 5 0 mX11_areWeightsAlike 2 [some (.ref 0), some (.int (nI j))] [] w (zu_ G (.inl (some (.int (nI 1)))) w) := by
    intro n9
    induction n9 with
    | zero =>
      intro j  hi9 
      refine ev_iload_n dX11_areWeightsAlike_2 rfl ?_
      refine ev_aload_n dX11_areWeightsAlike_3 rfl ?_
      refine ev_getR fX11_10 dX11_areWeightsAlike_4 (by decide) sh0 rfl ?_
      refine ev_getI fX11_236 dX11_areWeightsAlike_7 (by decide) sh1 rfl ?_
      refine ev_top hRn ?_
      refine ev_icmp_ge_t (tgt := 40) dX11_areWeightsAlike_10 (by decide) (nI_le (by omega) (by omega)) ?_
      refine ev_iconst dX11_areWeightsAlike_40 ic1 ?_
      exact ev_iret dX11_areWeightsAlike_41 rfl (by decide) rfl rfl
    | succ n9 ih =>
      intro j  hi9 
      refine ev_iload_n dX11_areWeightsAlike_2 rfl ?_
      refine ev_aload_n dX11_areWeightsAlike_3 rfl ?_
      refine ev_getR fX11_10 dX11_areWeightsAlike_4 (by decide) sh0 rfl ?_
      refine ev_getI fX11_236 dX11_areWeightsAlike_7 (by decide) sh1 rfl ?_
      refine ev_top hRn ?_
      refine ev_icmp_ge_f (tgt := 40) dX11_areWeightsAlike_10 (by decide) (nI_ge (by omega) (by omega)) ?_
      refine ev_aload_n dX11_areWeightsAlike_13 rfl ?_
      refine ev_getR fX11_10 dX11_areWeightsAlike_14 (by decide) sh0 rfl ?_
      refine ev_iload_n dX11_areWeightsAlike_17 rfl ?_
      refine ev_callS kX11_192 (qX10_weightByCells hS (by omega)) dX11_areWeightsAlike_18 rfl (by decide) (by decide) rfl ?_
      refine ev_aload_n dX11_areWeightsAlike_21 rfl ?_
      refine ev_getR fX11_10 dX11_areWeightsAlike_22 (by decide) sh0 rfl ?_
      refine ev_iload_n dX11_areWeightsAlike_25 rfl ?_
      refine ev_callS kX11_195 (qX10_weightByRealms hS (by omega)) dX11_areWeightsAlike_26 rfl (by decide) (by decide) rfl ?_
      refine ev_icmp_eq_t (tgt := 34) dX11_areWeightsAlike_29 (by decide) rfl ?_
      refine ev_iinc1 dX11_areWeightsAlike_34 (nI_inc _) (by decide) rfl ?_
      refine ev_goto (tgt := 2) dX11_areWeightsAlike_37 (by decide) ?_
      exact ih (j + 1) (by omega)
  exact lp (nR S) 0 (Nat.zero_add _)
set_option maxRecDepth 4000 in
theorem qX11_areLiesAlike {G : GX} {w : WS} {S : ST} (hS : cm_ S w) : Big G 6 0 mX11_areLiesAlike [.ref 0] w (.inl (some (.int (nI 1)))) w := by
  refine big_of (by decide +kernel) (Nat.le_of_ble_eq_true rfl) ?_
  show Ev G 6 0 mX11_areLiesAlike 0 [some (.ref 0), none] [] w _
  refine ev_iconst dX11_areLiesAlike_0 ic1 ?_
  refine ev_ist1 dX11_areLiesAlike_1 (by decide) rfl ?_
  have lp : ∀ (n9 j : Nat) , j + n9 = 8 → 1 ≤ j → Ev G 6 0 mX11_areLiesAlike 2 [some (.ref 0), some (.int (nI j))] [] w (zu_ G (.inl (some (.int (nI 1)))) w) := by
    intro n9
    induction n9 with
    | zero =>
      intro j  hi9 hj
      refine ev_iload_n dX11_areLiesAlike_2 rfl ?_
      refine ev_bipush (v := nI 8) dX11_areLiesAlike_3 (by decide) ?_
      refine ev_icmp_ge_t (tgt := 58) dX11_areLiesAlike_5 (by decide) (nI_le (by omega) (by omega)) ?_
      refine ev_iconst dX11_areLiesAlike_58 ic1 ?_
      exact ev_iret dX11_areLiesAlike_59 rfl (by decide) rfl rfl
    | succ n9 ih =>
      intro j  hi9 hj
      refine ev_iload_n dX11_areLiesAlike_2 rfl ?_
      refine ev_bipush (v := nI 8) dX11_areLiesAlike_3 (by decide) ?_
      refine ev_icmp_ge_f (tgt := 58) dX11_areLiesAlike_5 (by decide) (nI_ge (by omega) (by decide)) ?_
      refine ev_aload_n dX11_areLiesAlike_8 rfl ?_
      refine ev_getR fX11_10 dX11_areLiesAlike_9 (by decide) sh0 rfl ?_
      refine ev_iconst dX11_areLiesAlike_12 ic1 ?_
      refine ev_iload_n dX11_areLiesAlike_13 rfl ?_
      refine ev_callS kX11_224 (qX3_pairByPair (b := true) hS hj (by omega)) dX11_areLiesAlike_14 rfl (by decide) (by decide) rfl ?_
      refine ev_aload_n dX11_areLiesAlike_17 rfl ?_
      refine ev_getR fX11_10 dX11_areLiesAlike_18 (by decide) sh0 rfl ?_
      refine ev_iconst dX11_areLiesAlike_21 ic1 ?_
      refine ev_iload_n dX11_areLiesAlike_22 rfl ?_
      refine ev_callS kX11_230 (qX3_realmByRealm (b := true) hS hj (by omega)) dX11_areLiesAlike_23 rfl (by decide) (by decide) rfl ?_
      refine ev_icmp_ne_f (tgt := 50) dX11_areLiesAlike_26 (by decide) rfl ?_
      refine ev_aload_n dX11_areLiesAlike_29 rfl ?_
      refine ev_getR fX11_10 dX11_areLiesAlike_30 (by decide) sh0 rfl ?_
      refine ev_iconst dX11_areLiesAlike_33 ic0 ?_
      refine ev_iload_n dX11_areLiesAlike_34 rfl ?_
      refine ev_callS kX11_224 (qX3_pairByPair (b := false) hS hj (by omega)) dX11_areLiesAlike_35 rfl (by decide) (by decide) rfl ?_
      refine ev_aload_n dX11_areLiesAlike_38 rfl ?_
      refine ev_getR fX11_10 dX11_areLiesAlike_39 (by decide) sh0 rfl ?_
      refine ev_iconst dX11_areLiesAlike_42 ic0 ?_
      refine ev_iload_n dX11_areLiesAlike_43 rfl ?_
      refine ev_callS kX11_230 (qX3_realmByRealm (b := false) hS hj (by omega)) dX11_areLiesAlike_44 rfl (by decide) (by decide) rfl ?_
      refine ev_icmp_eq_t (tgt := 52) dX11_areLiesAlike_47 (by decide) rfl ?_
      refine ev_iinc1 dX11_areLiesAlike_52 (nI_inc _) (by decide) rfl ?_
      refine ev_goto (tgt := 2) dX11_areLiesAlike_55 (by decide) ?_
      exact ih (j + 1) (by omega) (by omega)
  exact lp 7 1 rfl (Nat.le_refl _)
def pT (w : WS) : OT → WS → Prop := fun o w2 => o = .inl (some (.int (nI 1))) ∧ frG [(113, 114)] w w2
theorem nIm {k : Nat} (h : k < 4) : nI k ≠ -1 := nI_m1 (by omega)
set_option maxRecDepth 4000 in
theorem qX11_areRealmsAlike {G : GX} {w : WS} {S : ST} (hS : cm_ S w) : ∃ o w2, (pT w o w2) ∧ Big G 6 0 mX11_areRealmsAlike [.ref 0] w o w2 := by
  refine bx_of (P := pT w) (by decide +kernel) (Nat.le_of_ble_eq_true rfl) ?_
  show Ex G 6 0 mX11_areRealmsAlike 0 [some (.ref 0), none] [] w _
  refine ex_s (fun _ => ev_iconst dX11_areRealmsAlike_0 ic0) ?_
  refine ex_s (fun _ => ev_ist1 dX11_areRealmsAlike_1 (by decide) rfl) ?_
  have lp : ∀ (n9 j : Nat) (x : WS), j + n9 = 4 → frG [(113, 114)] w x → Ex G 6 0 mX11_areRealmsAlike 2 [some (.ref 0), some (.int (nI j))] [] x (pT w) := by
    intro n9
    induction n9 with
    | zero =>
      intro j x hi9 hf
      refine ex_s (fun _ => ev_iload_n dX11_areRealmsAlike_2 rfl) ?_
      refine ex_s (fun _ => ev_iconst dX11_areRealmsAlike_3 ic4) ?_
      refine ex_s (fun _ => ev_icmp_ge_t (tgt := 61) dX11_areRealmsAlike_4 (by decide) (nI_le (by omega) (by omega))) ?_
      refine ex_s (fun _ => ev_iconst dX11_areRealmsAlike_61 ic1) ?_
      exact ⟨_, _, (by exact ⟨rfl, hf⟩), ev_iret dX11_areRealmsAlike_62 rfl (by decide) rfl rfl⟩
    | succ n9 ih =>
      intro j x hi9 hf
      refine ex_s (fun _ => ev_iload_n dX11_areRealmsAlike_2 rfl) ?_
      refine ex_s (fun _ => ev_iconst dX11_areRealmsAlike_3 ic4) ?_
      refine ex_s (fun _ => ev_icmp_ge_f (tgt := 61) dX11_areRealmsAlike_4 (by decide) (nI_ge (by omega) (by decide))) ?_
      refine ex_s (fun _ => ev_aload_n dX11_areRealmsAlike_7 rfl) ?_
      refine ex_s (fun _ => ev_getR fX11_10 dX11_areRealmsAlike_8 (by decide) sh0 rfl) ?_
      refine ex_s (fun _ => ev_iload_n dX11_areRealmsAlike_11 rfl) ?_
      have hx := cmG hS hf (by decide)
      refine ex_s (fun _ => ev_callS kX11_204 (qX0_sideBySide hx) dX11_areRealmsAlike_12 rfl (by decide) (by decide) rfl) ?_
      refine ex_s (fun _ => ev_aload_n dX11_areRealmsAlike_15 rfl) ?_
      refine ex_s (fun _ => ev_getR fX11_10 dX11_areRealmsAlike_16 (by decide) sh0 rfl) ?_
      refine ex_s (fun _ => ev_iload_n dX11_areRealmsAlike_19 rfl) ?_
      refine ex_s (fun _ => ev_callS kX11_207 (qX0_lessPairs hx) dX11_areRealmsAlike_20 rfl (by decide) (by decide) rfl) ?_
      refine ex_s (fun _ => ev_top (less_eq (nIm (by omega)))) ?_
      refine ex_s (fun _ => ev_icmp_ne_f (tgt := 53) dX11_areRealmsAlike_23 (by decide) rfl) ?_
      refine ex_s (fun _ => ev_aload_n dX11_areRealmsAlike_26 rfl) ?_
      refine ex_s (fun _ => ev_getR fX11_66 dX11_areRealmsAlike_27 (by decide) sh0 rfl) ?_
      refine ex_s (fun _ => ev_aload_n dX11_areRealmsAlike_30 rfl) ?_
      refine ex_s (fun _ => ev_getR fX11_10 dX11_areRealmsAlike_31 (by decide) sh0 rfl) ?_
      refine ex_s (fun _ => ev_iload_n dX11_areRealmsAlike_34 rfl) ?_
      obtain ⟨_, w3, ⟨rfl, g1⟩, hB3⟩ := qX6_byGoing (G := G) hx (r := nI j)
      have f3 := frG_tr hf (frG_L g1 (by decide))
      refine ex_s (fun _ => ev_callV kX11_210 co112 hB3 dX11_areRealmsAlike_35 rfl (by decide) (by decide) rfl) ?_
      refine ex_s (fun _ => ev_aload_n dX11_areRealmsAlike_38 rfl) ?_
      refine ex_s (fun _ => ev_getR fX11_66 dX11_areRealmsAlike_39 (by decide) sh0 rfl) ?_
      refine ex_s (fun _ => ev_aload_n dX11_areRealmsAlike_42 rfl) ?_
      refine ex_s (fun _ => ev_getR fX11_10 dX11_areRealmsAlike_43 (by decide) sh0 rfl) ?_
      refine ex_s (fun _ => ev_iload_n dX11_areRealmsAlike_46 rfl) ?_
      obtain ⟨_, w4, ⟨rfl, g2⟩, hB4⟩ := qX6_byJoining (G := G) (cmG hS f3 (by decide)) (r := nI j)
      have f4 := frG_tr f3 (frG_L g2 (by decide))
      refine ex_s (fun _ => ev_callV kX11_213 co112 hB4 dX11_areRealmsAlike_47 rfl (by decide) (by decide) rfl) ?_
      refine ex_s (fun _ => ev_icmp_eq_t (tgt := 55) dX11_areRealmsAlike_50 (by decide) rfl) ?_
      refine ex_s (fun _ => ev_iinc1 dX11_areRealmsAlike_55 (nI_inc _) (by decide) rfl) ?_
      refine ex_s (fun _ => ev_goto (tgt := 2) dX11_areRealmsAlike_58 (by decide)) ?_
      exact ih (j + 1) _ (by omega) f4
  exact lp 4 0 w rfl frG_rf
set_option maxRecDepth 4000 in
theorem qX11_isWonLost {G : GX} {w : WS} {S : ST} (hS : cm_ S w) (hc : cnS S) : Big G 1 0 mX11_isWonLost [.ref 0] w (.inl (some (.int (nI 1)))) w := by
  refine big_of (by decide +kernel) (Nat.le_of_ble_eq_true rfl) ?_
  obtain ⟨hO, hC, hR, hRv, hD, hDv, hM0, hM1, hM2, hM3, hM4⟩ := cm_cells hS
  obtain ⟨hch, hk1, hk2, hk3, hk4⟩ := id hS
  obtain ⟨cn, wn, ln, lc, h1, h2, h3, h4⟩ := hc
  show Ev G 1 0 mX11_isWonLost 0 [some (.ref 0), none, none] [] w _
  refine ev_iconst dX11_isWonLost_0 ic0 ?_
  refine ev_ist1 dX11_isWonLost_1 (by decide) rfl ?_
  refine ev_iconst dX11_isWonLost_2 ic0 ?_
  refine ev_ist2 dX11_isWonLost_3 (by decide) rfl ?_
  have lp : ∀ (n9 j : Nat) , j + n9 = 4 → Ev G 1 0 mX11_isWonLost 4 [some (.ref 0), some (.int (nI (sm wn j) - nI (sm ln j))), some (.int (nI j))] [] w (zu_ G (.inl (some (.int (nI 1)))) w) := by
    intro n9
    induction n9 with
    | zero =>
      intro j  hi9 
      refine ev_iload_n dX11_isWonLost_4 rfl ?_
      refine ev_iconst dX11_isWonLost_5 ic4 ?_
      refine ev_icmp_ge_t (tgt := 37) dX11_isWonLost_6 (by decide) (nI_le (by omega) (by omega)) ?_
      refine ev_iload_n dX11_isWonLost_37 rfl ?_
      obtain rfl : j = 4 := by omega
      refine ev_if_ne_f (tgt := 45) dX11_isWonLost_38 (by decide) (by rw [h4]; exact Int32.sub_self _) ?_
      refine ev_iconst dX11_isWonLost_41 ic1 ?_
      refine ev_goto (tgt := 46) dX11_isWonLost_42 (by decide) ?_
      exact ev_iret dX11_isWonLost_46 rfl (by decide) rfl rfl
    | succ n9 ih =>
      intro j  hi9 
      refine ev_iload_n dX11_isWonLost_4 rfl ?_
      refine ev_iconst dX11_isWonLost_5 ic4 ?_
      refine ev_icmp_ge_f (tgt := 37) dX11_isWonLost_6 (by decide) (nI_ge (by omega) (by decide)) ?_
      refine ev_iload_n dX11_isWonLost_9 rfl ?_
      refine ev_aload_n dX11_isWonLost_10 rfl ?_
      refine ev_getR fX11_10 dX11_isWonLost_11 (by decide) sh0 rfl ?_
      refine ev_getR fX11_144 dX11_isWonLost_14 (by decide) sh1 rfl ?_
      refine ev_iload_n dX11_isWonLost_17 rfl ?_
      refine ev_iaload dX11_isWonLost_18 rfl (by omega) (by decide) sh4 ?_
      refine ev_top ((hC j (by omega)).2.1.trans (h1 j (by omega)).2.1) ?_
      refine ev_aload_n dX11_isWonLost_19 rfl ?_
      refine ev_getR fX11_10 dX11_isWonLost_20 (by decide) sh0 rfl ?_
      refine ev_getR fX11_147 dX11_isWonLost_23 (by decide) sh1 rfl ?_
      refine ev_iload_n dX11_isWonLost_26 rfl ?_
      refine ev_iaload dX11_isWonLost_27 rfl (by omega) (by decide) sh5 ?_
      refine ev_top ((hC j (by omega)).2.2.trans (h1 j (by omega)).2.2) ?_
      refine ev_isub dX11_isWonLost_28 ?_
      refine ev_iadd dX11_isWonLost_29 ?_
      refine ev_top (df_s _ _ _ _) ?_
      refine ev_ist1 dX11_isWonLost_30 (by decide) rfl ?_
      refine ev_iinc2 dX11_isWonLost_31 (nI_inc _) (by decide) rfl ?_
      refine ev_goto (tgt := 4) dX11_isWonLost_34 (by decide) ?_
      exact ih (j + 1) (by omega)
  have q := lp 4 0 rfl
  rw [show nI (sm wn 0) - nI (sm ln 0) = nI 0 by show nI 0 - nI 0 = nI 0; decide] at q
  exact q
set_option maxRecDepth 4000 in
theorem qX11_areCoinsWhole {G : GX} {w : WS} {S : ST} (hS : cm_ S w) (hc : cnS S) : Big G 2 0 mX11_areCoinsWhole [.ref 0] w (.inl (some (.int (nI 1)))) w := by
  refine big_of (by decide +kernel) (Nat.le_of_ble_eq_true rfl) ?_
  obtain ⟨hO, hC, hR, hRv, hD, hDv, hM0, hM1, hM2, hM3, hM4⟩ := cm_cells hS
  obtain ⟨hch, hk1, hk2, hk3, hk4⟩ := id hS
  obtain ⟨cn, wn, ln, lc, h1, h2, h3, h4⟩ := hc
  have hk5 := hk3.1
  show Ev G 2 0 mX11_areCoinsWhole 0 [some (.ref 0), none, none] [] w _
  refine ev_aload_n dX11_areCoinsWhole_0 rfl ?_
  refine ev_getR fX11_10 dX11_areCoinsWhole_1 (by decide) sh0 rfl ?_
  refine ev_callV kX11_308 co1 (qX1_allCoins hS) dX11_areCoinsWhole_4 rfl (by decide) (by decide) rfl ?_
  refine ev_top (al_nI (fun k hk => (h1 k hk).1)) ?_
  refine ev_aload_n dX11_areCoinsWhole_7 rfl ?_
  refine ev_getR fX11_10 dX11_areCoinsWhole_8 (by decide) sh0 rfl ?_
  refine ev_getI fX11_320 dX11_areCoinsWhole_11 (by decide) sh1 rfl ?_
  refine ev_top (hM4.trans h2) ?_
  refine ev_iadd dX11_areCoinsWhole_14 ?_
  refine ev_top (nI_add _ _) ?_
  refine ev_ist1 dX11_areCoinsWhole_15 (by decide) rfl ?_
  refine ev_iconst dX11_areCoinsWhole_16 ic0 ?_
  refine ev_ist2 dX11_areCoinsWhole_17 (by decide) rfl ?_
  have lp : ∀ (n9 j : Nat) , j + n9 = nD S → Ev G 2 0 mX11_areCoinsWhole 18 [some (.ref 0), some (.int (nI (sm cn 4 + lc + sm (dP S) j))), some (.int (nI j))] [] w (zu_ G (.inl (some (.int (nI 1)))) w) := by
    intro n9
    induction n9 with
    | zero =>
      intro j  hi9 
      refine ev_iload_n dX11_areCoinsWhole_18 rfl ?_
      refine ev_aload_n dX11_areCoinsWhole_19 rfl ?_
      refine ev_getR fX11_10 dX11_areCoinsWhole_20 (by decide) sh0 rfl ?_
      refine ev_getI fX11_305 dX11_areCoinsWhole_23 (by decide) sh1 rfl ?_
      refine ev_top hD ?_
      refine ev_icmp_ge_t (tgt := 52) dX11_areCoinsWhole_26 (by decide) (nI_le (by omega) (by omega)) ?_
      obtain rfl : j = nD S := by omega
      rw [h3]
      refine ev_iload_n dX11_areCoinsWhole_52 rfl ?_
      refine ev_sipush (v := nI 400) dX11_areCoinsWhole_53 (by decide) ?_
      refine ev_icmp_ne_f (tgt := 63) dX11_areCoinsWhole_56 (by decide) rfl ?_
      refine ev_iconst dX11_areCoinsWhole_59 ic1 ?_
      refine ev_goto (tgt := 64) dX11_areCoinsWhole_60 (by decide) ?_
      exact ev_iret dX11_areCoinsWhole_64 rfl (by decide) rfl rfl
    | succ n9 ih =>
      intro j  hi9 
      refine ev_iload_n dX11_areCoinsWhole_18 rfl ?_
      refine ev_aload_n dX11_areCoinsWhole_19 rfl ?_
      refine ev_getR fX11_10 dX11_areCoinsWhole_20 (by decide) sh0 rfl ?_
      refine ev_getI fX11_305 dX11_areCoinsWhole_23 (by decide) sh1 rfl ?_
      refine ev_top hD ?_
      refine ev_icmp_ge_f (tgt := 52) dX11_areCoinsWhole_26 (by decide) (nI_ge (by omega) (by omega)) ?_
      refine ev_iload_n dX11_areCoinsWhole_29 rfl ?_
      refine ev_iconst dX11_areCoinsWhole_30 ic5 ?_
      refine ev_icmp_ge_f (tgt := 52) dX11_areCoinsWhole_31 (by decide) (nI_ge (by omega) (by decide)) ?_
      refine ev_iload_n dX11_areCoinsWhole_34 rfl ?_
      refine ev_aload_n dX11_areCoinsWhole_35 rfl ?_
      refine ev_getR fX11_10 dX11_areCoinsWhole_36 (by decide) sh0 rfl ?_
      refine ev_getR fX11_184 dX11_areCoinsWhole_39 (by decide) sh1 rfl ?_
      refine ev_iload_n dX11_areCoinsWhole_42 rfl ?_
      refine ev_iaload dX11_areCoinsWhole_43 rfl (by omega) (by decide) sh10 ?_
      refine ev_top (hDv j (by omega)).2.1 ?_
      refine ev_iadd dX11_areCoinsWhole_44 ?_
      refine ev_top (y := nI (sm cn 4 + lc + sm (dP S) (j + 1))) (by rw [nI_add, sm_s (dP S) j, ← Nat.add_assoc]) ?_
      refine ev_ist1 dX11_areCoinsWhole_45 (by decide) rfl ?_
      refine ev_iinc2 dX11_areCoinsWhole_46 (nI_inc _) (by decide) rfl ?_
      refine ev_goto (tgt := 18) dX11_areCoinsWhole_49 (by decide) ?_
      exact ih (j + 1) (by omega)
  exact lp (nD S) 0 (Nat.zero_add _)
set_option maxRecDepth 4000 in
theorem qX11_isTrue {G : GX} {w : WS} {S : ST} (hS : cm_ S w) (hc : cnS S) : ∃ o w2, (pT w o w2) ∧ Big G 7 0 mX11_isTrue [.ref 0] w o w2 := by
  refine bx_of (P := pT w) (by decide +kernel) (Nat.le_of_ble_eq_true rfl) ?_
  show Ex G 7 0 mX11_isTrue 0 [some (.ref 0)] [] w _
  refine ex_s (fun _ => ev_aload_n dX11_isTrue_0 rfl) ?_
  refine ex_s (fun _ => ev_callV kX11_251 co0 (qX11_areWeightsAlike hS) dX11_isTrue_1 rfl (by decide) (by decide) rfl) ?_
  refine ex_s (fun _ => ev_if_eq_f (tgt := 39) dX11_isTrue_4 (by decide) (by decide)) ?_
  refine ex_s (fun _ => ev_aload_n dX11_isTrue_7 rfl) ?_
  obtain ⟨_, w3, ⟨rfl, g1⟩, hB3⟩ := qX11_areRealmsAlike (G := G) hS
  have h3 := cmG hS g1 (by decide)
  refine ex_s (fun _ => ev_callV kX11_255 co0 hB3 dX11_isTrue_8 rfl (by decide) (by decide) rfl) ?_
  refine ex_s (fun _ => ev_if_eq_f (tgt := 39) dX11_isTrue_11 (by decide) (by decide)) ?_
  refine ex_s (fun _ => ev_aload_n dX11_isTrue_14 rfl) ?_
  refine ex_s (fun _ => ev_callV kX11_258 co0 (qX11_areLiesAlike h3) dX11_isTrue_15 rfl (by decide) (by decide) rfl) ?_
  refine ex_s (fun _ => ev_if_eq_f (tgt := 39) dX11_isTrue_18 (by decide) (by decide)) ?_
  refine ex_s (fun _ => ev_aload_n dX11_isTrue_21 rfl) ?_
  refine ex_s (fun _ => ev_callV kX11_261 co0 (qX11_isWonLost h3 hc) dX11_isTrue_22 rfl (by decide) (by decide) rfl) ?_
  refine ex_s (fun _ => ev_if_eq_f (tgt := 39) dX11_isTrue_25 (by decide) (by decide)) ?_
  refine ex_s (fun _ => ev_aload_n dX11_isTrue_28 rfl) ?_
  refine ex_s (fun _ => ev_callV kX11_264 co0 (qX11_areCoinsWhole h3 hc) dX11_isTrue_29 rfl (by decide) (by decide) rfl) ?_
  refine ex_s (fun _ => ev_if_eq_f (tgt := 39) dX11_isTrue_32 (by decide) (by decide)) ?_
  refine ex_s (fun _ => ev_iconst dX11_isTrue_35 ic1) ?_
  refine ex_s (fun _ => ev_goto (tgt := 40) dX11_isTrue_36 (by decide)) ?_
  exact ⟨_, _, (by exact ⟨rfl, g1⟩), ev_iret dX11_isTrue_40 rfl (by decide) rfl rfl⟩
/-- how a cell is told in a row -/
def sgC (S : ST) (c : Nat) : Nat := if sO S c = -1 then 46 else (if (dOn S c).isSome then 65 else 97) + oN_ (sO S c)
def sgS (d : Nat) : Nat := if d = 0 then 110 else if d = 1 then 101 else if d = 2 then 115 else 119
set_option maxRecDepth 4000 in
theorem qX11_signOfCell {G : GX} {w : WS} {S : ST} (hS : cm_ S w) {c : Nat} (hc : c < 64) : Big G 3 0 mX11_signOfCell [.ref 0, .int (nI c)] w (.inl (some (.int (nI (sgC S c))))) w := by
  refine big_of (by decide +kernel) (Nat.le_of_ble_eq_true rfl) ?_
  show Ev G 3 0 mX11_signOfCell 0 [some (.ref 0), some (.int (nI c)), none] [] w _
  refine ev_aload_n dX11_signOfCell_0 rfl ?_
  refine ev_getR fX11_10 dX11_signOfCell_1 (by decide) sh0 rfl ?_
  refine ev_iload_n dX11_signOfCell_4 rfl ?_
  refine ev_callV kX11_130 co1 (qX1_ownerAt_y hS hc) dX11_signOfCell_5 rfl (by decide) (by decide) rfl ?_
  refine ev_ist2 dX11_signOfCell_8 (by decide) rfl ?_
  refine ev_iload_n dX11_signOfCell_9 rfl ?_
  refine ev_iconst dX11_signOfCell_10 icm1 ?_
  refine ev_icmp_ne (tgt := 17) dX11_signOfCell_11 (by decide) (fun hc11 => ?_) (fun hc11 => ?_)
  · obtain ⟨a, ha, hoa, hon⟩ := ow_ hS.2 hc hc11
    rw [hoa]
    refine ev_aload_n dX11_signOfCell_17 rfl ?_
    refine ev_getR fX11_10 dX11_signOfCell_18 (by decide) sh0 rfl ?_
    refine ev_iload_n dX11_signOfCell_21 rfl ?_
    refine ev_callV kX11_454 co1 (qX1_dragonOn hS hc) dX11_signOfCell_22 rfl (by decide) (by decide) rfl ?_
    have ob : ∀ k, dOn S c = some k → k < 2 ^ 31 := fun k hk => by have := (dOn_lt hk).1; have := hS.2.2.2.1.1; omega
    refine ev_iconst dX11_signOfCell_25 icm1 ?_
    refine ev_icmp_ne (tgt := 34) dX11_signOfCell_26 (by decide) (fun hc26 => ?_) (fun hc26 => ?_)
    · have e26 : (dOn S c).isSome = true := by cases e : dOn S c with
        | none => exact absurd ((oI_none ob).mpr e) hc26
        | some y => rfl
      refine ev_bipush (v := nI 65) dX11_signOfCell_34 (by decide) ?_
      refine ev_iload_n dX11_signOfCell_36 rfl ?_
      refine ev_iadd dX11_signOfCell_37 ?_
      refine ev_top (nI_add _ _) ?_
      refine ev_i2c dX11_signOfCell_38 (pC_i2c (by omega)) ?_
      exact ev_iret dX11_signOfCell_39 rfl (pk_charN (by omega)).1 (by unfold sgC; rw [if_neg hc11, if_pos e26, hon]) rfl
    · have e26 : ¬ (dOn S c).isSome = true := by rw [(oI_none ob).mp hc26]; decide
      refine ev_bipush (v := nI 97) dX11_signOfCell_29 (by decide) ?_
      refine ev_goto (tgt := 36) dX11_signOfCell_31 (by decide) ?_
      refine ev_iload_n dX11_signOfCell_36 rfl ?_
      refine ev_iadd dX11_signOfCell_37 ?_
      refine ev_top (nI_add _ _) ?_
      refine ev_i2c dX11_signOfCell_38 (pC_i2c (by omega)) ?_
      exact ev_iret dX11_signOfCell_39 rfl (pk_charN (by omega)).1 (by unfold sgC; rw [if_neg hc11, if_neg e26, hon]) rfl
  · refine ev_bipush (v := nI 46) dX11_signOfCell_14 (by decide) ?_
    exact ev_iret dX11_signOfCell_16 rfl (by decide) (by unfold sgC; rw [if_pos hc11]) rfl
set_option maxRecDepth 4000 in
theorem qX11_signOfStep_1 {G : GX} {w : WS} {x : Nat} (hx : x < 64) : Big G 1 0 mX11_signOfStep [.int (nI x), .int (nI (x + 1))] w (.inl (some (.int (nI 101)))) w := by
  refine big_of (by decide +kernel) (Nat.le_of_ble_eq_true rfl) ?_
  show Ev G 1 0 mX11_signOfStep 0 [some (.int (nI x)), some (.int (nI (x + 1)))] [] w _
  refine ev_iload_n dX11_signOfStep_0 rfl ?_
  refine ev_iload_n dX11_signOfStep_1 rfl ?_
  refine ev_iconst dX11_signOfStep_2 ic1 ?_
  refine ev_iadd dX11_signOfStep_3 ?_
  refine ev_top (nI_add _ _) ?_
  refine ev_icmp_ne_f (tgt := 10) dX11_signOfStep_4 (by decide) rfl ?_
  refine ev_bipush (v := nI 101) dX11_signOfStep_7 (by decide) ?_
  exact ev_iret dX11_signOfStep_9 rfl rfl rfl rfl
set_option maxRecDepth 4000 in
theorem qX11_signOfStep_3 {G : GX} {w : WS} {x : Nat} (hx : x < 64) (h : 0 < x) : Big G 1 0 mX11_signOfStep [.int (nI x), .int (nI (x - 1))] w (.inl (some (.int (nI 119)))) w := by
  refine big_of (by decide +kernel) (Nat.le_of_ble_eq_true rfl) ?_
  show Ev G 1 0 mX11_signOfStep 0 [some (.int (nI x)), some (.int (nI (x - 1)))] [] w _
  refine ev_iload_n dX11_signOfStep_0 rfl ?_
  refine ev_iload_n dX11_signOfStep_1 rfl ?_
  refine ev_iconst dX11_signOfStep_2 ic1 ?_
  refine ev_iadd dX11_signOfStep_3 ?_
  refine ev_top (nI_add _ _) ?_
  refine ev_icmp_ne_t (tgt := 10) dX11_signOfStep_4 (by decide) (fun q => by have := nI_inj (by omega) (by omega) q; omega) ?_
  refine ev_iload_n dX11_signOfStep_10 rfl ?_
  refine ev_iload_n dX11_signOfStep_11 rfl ?_
  refine ev_iconst dX11_signOfStep_12 ic1 ?_
  refine ev_isub dX11_signOfStep_13 ?_
  refine ev_top (pk_sub h) ?_
  refine ev_icmp_ne_f (tgt := 20) dX11_signOfStep_14 (by decide) rfl ?_
  refine ev_bipush (v := nI 119) dX11_signOfStep_17 (by decide) ?_
  exact ev_iret dX11_signOfStep_19 rfl rfl rfl rfl
set_option maxRecDepth 4000 in
theorem qX11_signOfStep_2 {G : GX} {w : WS} {x : Nat} (hx : x < 64) : Big G 1 0 mX11_signOfStep [.int (nI x), .int (nI (x + 8))] w (.inl (some (.int (nI 115)))) w := by
  refine big_of (by decide +kernel) (Nat.le_of_ble_eq_true rfl) ?_
  show Ev G 1 0 mX11_signOfStep 0 [some (.int (nI x)), some (.int (nI (x + 8)))] [] w _
  refine ev_iload_n dX11_signOfStep_0 rfl ?_
  refine ev_iload_n dX11_signOfStep_1 rfl ?_
  refine ev_iconst dX11_signOfStep_2 ic1 ?_
  refine ev_iadd dX11_signOfStep_3 ?_
  refine ev_top (nI_add _ _) ?_
  refine ev_icmp_ne_t (tgt := 10) dX11_signOfStep_4 (by decide) (fun q => by have := nI_inj (by omega) (by omega) q; omega) ?_
  refine ev_iload_n dX11_signOfStep_10 rfl ?_
  refine ev_iload_n dX11_signOfStep_11 rfl ?_
  refine ev_iconst dX11_signOfStep_12 ic1 ?_
  refine ev_isub dX11_signOfStep_13 ?_
  refine ev_icmp_ne_t (tgt := 20) dX11_signOfStep_14 (by decide) (fun q => by
        rcases Nat.eq_zero_or_pos x with e | e
        · subst e; exact absurd q (by decide)
        · rw [show nI x - nI 1 = nI (x - 1) from pk_sub e] at q; have := nI_inj (by omega) (by omega) q; omega) ?_
  refine ev_iload_n dX11_signOfStep_20 rfl ?_
  refine ev_iload_n dX11_signOfStep_21 rfl ?_
  refine ev_icmp_le_f (tgt := 30) dX11_signOfStep_22 (by decide) (nI_ge (by omega) (by omega)) ?_
  refine ev_bipush (v := nI 115) dX11_signOfStep_25 (by decide) ?_
  refine ev_goto (tgt := 32) dX11_signOfStep_27 (by decide) ?_
  exact ev_iret dX11_signOfStep_32 rfl rfl rfl rfl
set_option maxRecDepth 4000 in
theorem qX11_signOfStep_0 {G : GX} {w : WS} {x : Nat} (hx : x < 64) (h : 8 ≤ x) : Big G 1 0 mX11_signOfStep [.int (nI x), .int (nI (x - 8))] w (.inl (some (.int (nI 110)))) w := by
  refine big_of (by decide +kernel) (Nat.le_of_ble_eq_true rfl) ?_
  show Ev G 1 0 mX11_signOfStep 0 [some (.int (nI x)), some (.int (nI (x - 8)))] [] w _
  refine ev_iload_n dX11_signOfStep_0 rfl ?_
  refine ev_iload_n dX11_signOfStep_1 rfl ?_
  refine ev_iconst dX11_signOfStep_2 ic1 ?_
  refine ev_iadd dX11_signOfStep_3 ?_
  refine ev_top (nI_add _ _) ?_
  refine ev_icmp_ne_t (tgt := 10) dX11_signOfStep_4 (by decide) (fun q => by have := nI_inj (by omega) (by omega) q; omega) ?_
  refine ev_iload_n dX11_signOfStep_10 rfl ?_
  refine ev_iload_n dX11_signOfStep_11 rfl ?_
  refine ev_iconst dX11_signOfStep_12 ic1 ?_
  refine ev_isub dX11_signOfStep_13 ?_
  refine ev_top (pk_sub (by omega)) ?_
  refine ev_icmp_ne_t (tgt := 20) dX11_signOfStep_14 (by decide) (fun q => by have := nI_inj (by omega) (by omega) q; omega) ?_
  refine ev_iload_n dX11_signOfStep_20 rfl ?_
  refine ev_iload_n dX11_signOfStep_21 rfl ?_
  refine ev_icmp_le_t (tgt := 30) dX11_signOfStep_22 (by decide) (nI_le (by omega) (by omega)) ?_
  refine ev_bipush (v := nI 110) dX11_signOfStep_30 (by decide) ?_
  exact ev_iret dX11_signOfStep_32 rfl rfl rfl rfl
theorem qX11_signOfStep {G : GX} {w : WS} {x d y : Nat} (hx : x < 64) (hd : d < 4) (h : nb x d = some y) : Big G 1 0 mX11_signOfStep [.int (nI x), .int (nI y)] w (.inl (some (.int (nI (sgS d))))) w := by
  unfold nb at h
  unfold sgS
  by_cases h0 : d = 0
  · rw [if_pos h0] at h ⊢
    split at h
    · rename_i q; cases h; exact qX11_signOfStep_0 hx q
    · cases h
  · rw [if_neg h0] at h ⊢
    by_cases h1 : d = 1
    · rw [if_pos h1] at h ⊢
      split at h
      · cases h; exact qX11_signOfStep_1 hx
      · cases h
    · rw [if_neg h1] at h ⊢
      by_cases h2 : d = 2
      · rw [if_pos h2] at h ⊢
        split at h
        · cases h; exact qX11_signOfStep_2 hx
        · cases h
      · rw [if_neg h2] at h ⊢
        rw [if_pos (by omega)] at h
        split at h
        · rename_i q; cases h; exact qX11_signOfStep_3 hx (by omega)
        · cases h
