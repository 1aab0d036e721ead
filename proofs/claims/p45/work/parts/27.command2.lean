/-! steps, commands, texts taken -/
def pTS (n : Nat) (t : Nat → Nat) (p : Nat) (w : WS) : OT → WS → Prop := fun o w2 => o = .inl (some (.int (bI (decide (0 < stN n t 12 p))))) ∧ w2.1 106 1 = nI (p + stN n t 12 p) ∧ frL [102, 103, 106] w w2 ∧ (w2.1 102 0 = w.1 102 0 ∧ w2.1 102 1 = w.1 102 1 ∧ w2.1 102 2 = w.1 102 2) ∧ w2.1 102 3 = nI (stN n t 12 p) ∧ ∀ k, k < stN n t 12 p → w2.1 103 k = nI (stD n t p k)
theorem pTS_of {n : Nat} {t : Nat → Nat} {p s : Nat} {w x : WS} {v : Int32} (hL : stN n t 12 p = s) (hv : v = bI (decide (0 < s))) (h1 : x.1 106 1 = nI (p + s)) (hf : frL [102, 103, 106] w x) (h2 : x.1 102 0 = w.1 102 0 ∧ x.1 102 1 = w.1 102 1 ∧ x.1 102 2 = w.1 102 2) (h3 : x.1 102 3 = nI s) (hk : ∀ k, k < s → x.1 103 k = nI (stD n t p k)) : pTS n t p w (.inl (some (.int v))) x := by
  subst hL hv
  exact ⟨rfl, h1, hf, h2, h3, hk⟩
set_option maxRecDepth 4000 in
theorem qX7_takeSteps {G : GX} {w : WS} {n : Nat} {t : Nat → Nat} (hi : inA n t w) {p : Nat} (hp : w.1 106 1 = nI p) (hpn : p ≤ n) : ∃ o w2, (pTS n t p w o w2) ∧ Big G 4 0 mX7_takeSteps [.ref 106, .ref 102] w o w2 := by
  refine bx_of (P := pTS n t p w) (by decide +kernel) (Nat.le_of_ble_eq_true rfl) ?_
  show Ex G 4 0 mX7_takeSteps 0 [some (.ref 106), some (.ref 102), none, none] [] w _
  refine ex_s (fun _ => ev_aload_n dX7_takeSteps_0 rfl) ?_
  refine ex_s (fun _ => ev_iconst dX7_takeSteps_1 ic0) ?_
  refine ex_s (fun _ => ev_put fX7_75 dX7_takeSteps_2 rfl rfl (by decide) sh102 rfl) ?_
  refine ex_s (fun _ => ev_iconst dX7_takeSteps_5 ic0) ?_
  refine ex_s (fun _ => ev_ist2 dX7_takeSteps_6 (by decide) rfl) ?_
  have hex : ∀ (s : Nat) (x : WS), s ≤ 12 → stN n t 12 p = s → x.1 106 1 = nI (p + s) → frL [102, 103, 106] w x → (x.1 102 0 = w.1 102 0 ∧ x.1 102 1 = w.1 102 1 ∧ x.1 102 2 = w.1 102 2) → x.1 102 3 = nI s → (∀ k, k < s → x.1 103 k = nI (stD n t p k)) → Ex G 4 0 mX7_takeSteps 66 [some (.ref 106), some (.ref 102), some (.int (nI s)), none] [] x (pTS n t p w) := by
    intro s x hs hLs hx hf h2 h3 hk
    refine ex_s (fun _ => ev_aload_n dX7_takeSteps_66 rfl) ?_
    refine ex_s (fun _ => ev_getI fX7_75 dX7_takeSteps_67 (by decide) sh102 rfl) ?_
    refine ex_s (fun _ => ev_top h3) ?_
    refine ex_bp (fun _ => ev_if_le (tgt := 77) dX7_takeSteps_70 (by decide)) (fun hc70 => ?_) (fun hc70 => ?_)
    · refine ex_s (fun _ => ev_iconst dX7_takeSteps_77 ic0) ?_
      exact ⟨_, _, (by exact pTS_of hLs (by rw [(le0 (by omega)).mp hc70]; rfl) hx hf h2 h3 hk), ev_iret dX7_takeSteps_78 rfl (by decide) rfl rfl⟩
    · refine ex_s (fun _ => ev_iconst dX7_takeSteps_73 ic1) ?_
      refine ex_s (fun _ => ev_goto (tgt := 78) dX7_takeSteps_74 (by decide)) ?_
      exact ⟨_, _, (by exact pTS_of hLs (by rw [decide_eq_true (show 0 < s from Nat.pos_of_ne_zero (fun q => hc70 ((le0 (by omega)).mpr q)))]; rfl) hx hf h2 h3 hk), ev_iret dX7_takeSteps_78 rfl (by decide) rfl rfl⟩
  have lp : ∀ (n9 s : Nat) (x : WS), s + n9 = 12 → stN n t 12 p = s + stN n t n9 (p + s) → x.1 106 1 = nI (p + s) → frL [102, 103, 106] w x → (x.1 102 0 = w.1 102 0 ∧ x.1 102 1 = w.1 102 1 ∧ x.1 102 2 = w.1 102 2) → x.1 102 3 = nI s → (∀ k, k < s → x.1 103 k = nI (stD n t p k)) → p + s ≤ n → Ex G 4 0 mX7_takeSteps 7 [some (.ref 106), some (.ref 102), some (.int (nI s)), none] [] x (pTS n t p w) := by
    intro n9
    induction n9 with
    | zero =>
      intro s x hi9 hL hx hf h2 h3 hk hps
      refine ex_s (fun _ => ev_iload_n dX7_takeSteps_7 rfl) ?_
      refine ex_s (fun _ => ev_bipush (v := nI 12) dX7_takeSteps_8 (by decide)) ?_
      refine ex_s (fun _ => ev_icmp_ge_t (tgt := 66) dX7_takeSteps_10 (by decide) (nI_le (by omega) (by omega))) ?_
      exact hex s x (by omega) (by rw [hL]; rfl) hx hf h2 h3 hk
    | succ n9 ih =>
      intro s x hi9 hL hx hf h2 h3 hk hps
      refine ex_s (fun _ => ev_iload_n dX7_takeSteps_7 rfl) ?_
      refine ex_s (fun _ => ev_bipush (v := nI 12) dX7_takeSteps_8 (by decide)) ?_
      refine ex_s (fun _ => ev_icmp_ge_f (tgt := 66) dX7_takeSteps_10 (by decide) (nI_ge (by omega) (by decide))) ?_
      refine ex_s (fun _ => ev_aload_n dX7_takeSteps_13 rfl) ?_
      refine ex_s (fun _ => ev_getR fX7_12 dX7_takeSteps_14 (by decide) sh106 rfl) ?_
      refine ex_s (fun _ => ev_aload_n dX7_takeSteps_17 rfl) ?_
      refine ex_s (fun _ => ev_getI fX7_18 dX7_takeSteps_18 (by decide) sh106 rfl) ?_
      refine ex_s (fun _ => ev_top hx) ?_
      have hix : inA n t x := inA_fr hi hf (by decide) (by decide)
      refine ex_s (fun _ => ev_callV kX7_39 co104 (qX7_sgn hix hps) dX7_takeSteps_21 rfl (by decide) (by decide) rfl) ?_
      refine ex_s (fun _ => ev_callS kX7_78 (qX7_side hix (p := p + s)) dX7_takeSteps_24 rfl (by decide) (by decide) rfl) ?_
      refine ex_s (fun _ => ev_ist3 dX7_takeSteps_27 (by decide) rfl) ?_
      refine ex_s (fun _ => ev_iload_n dX7_takeSteps_28 rfl) ?_
      refine ex_s (fun _ => ev_iconst dX7_takeSteps_29 icm1) ?_
      refine ex_bn (fun _ => ev_icmp_ne (tgt := 36) dX7_takeSteps_30 (by decide)) (fun hc30 => ?_) (fun hc30 => ?_)
      · obtain ⟨d, hd⟩ : ∃ d, stp n t (p + s) = some d := by
          cases e : stp n t (p + s) with
          | none => rw [e] at hc30; exact absurd rfl hc30
          | some d => exact ⟨d, rfl⟩
        rw [hd]
        refine ex_s (fun _ => ev_aload_n dX7_takeSteps_36 rfl) ?_
        refine ex_s (fun _ => ev_dup dX7_takeSteps_37 rfl) ?_
        refine ex_s (fun _ => ev_getI fX7_18 dX7_takeSteps_38 (by decide) sh106 rfl) ?_
        refine ex_s (fun _ => ev_top hx) ?_
        refine ex_s (fun _ => ev_iconst dX7_takeSteps_41 ic1) ?_
        refine ex_s (fun _ => ev_iadd dX7_takeSteps_42) ?_
        refine ex_s (fun _ => ev_top (nI_add _ _)) ?_
        refine ex_s (fun _ => ev_put fX7_18 dX7_takeSteps_43 rfl rfl (by decide) sh106 rfl) ?_
        refine ex_s (fun _ => ev_aload_n dX7_takeSteps_46 rfl) ?_
        refine ex_s (fun _ => ev_getR fX7_81 dX7_takeSteps_47 (by decide) sh102 rfl) ?_
        refine ex_s (fun _ => ev_iload_n dX7_takeSteps_50 rfl) ?_
        refine ex_s (fun _ => ev_iload_n dX7_takeSteps_51 rfl) ?_
        refine ex_s (fun _ => ev_iastore dX7_takeSteps_52 rfl (by omega) rfl (by decide) sh103) ?_
        refine ex_s (fun _ => ev_aload_n dX7_takeSteps_53 rfl) ?_
        refine ex_s (fun _ => ev_iload_n dX7_takeSteps_54 rfl) ?_
        refine ex_s (fun _ => ev_iconst dX7_takeSteps_55 ic1) ?_
        refine ex_s (fun _ => ev_iadd dX7_takeSteps_56) ?_
        refine ex_s (fun _ => ev_top (nI_add _ _)) ?_
        refine ex_s (fun _ => ev_put fX7_75 dX7_takeSteps_57 rfl rfl (by decide) sh102 rfl) ?_
        refine ex_s (fun _ => ev_iinc2 dX7_takeSteps_60 (nI_inc _) (by decide) rfl) ?_
        refine ex_s (fun _ => ev_goto (tgt := 7) dX7_takeSteps_63 (by decide)) ?_
        refine ex_s (fun _ => ev_fg3) ?_
        have hlt := (stp_lt hd).2
        have hL2 : stN n t 12 p = s + 1 + stN n t n9 (p + (s + 1)) := by
          rw [hL, stN, hd]
          simp only [Option.isSome_some, if_true]
          rw [show p + s + 1 = p + (s + 1) by omega]
          omega
        refine ih (s + 1) _ (by omega) hL2 rfl (frL_cs (frL_cs (frL_cs hf (by decide) _) (by decide) _) (by decide) _) h2 rfl (fun k hk2 => ?_) (by omega)
        show upd (x.1 103) s (nI d) k = nI (stD n t p k)
        unfold upd
        by_cases e : k = s
        · subst e
          rw [if_pos rfl]
          unfold stD
          rw [hd]
          rfl
        · rw [if_neg e]
          exact hk k (by omega)
      · have e30 : stp n t (p + s) = none := (oI_none (fun k hk => by have := (stp_lt hk).1; omega)).mp hc30
        refine ex_s (fun _ => ev_goto (tgt := 66) dX7_takeSteps_33 (by decide)) ?_
        refine ex_s (fun _ => ev_fg3) ?_
        exact hex s x (by omega) (by rw [hL, stN, e30]; rfl) hx hf h2 h3 hk
  exact lp 12 0 _ rfl (Nat.zero_add _).symm hp (frL_cs frL_rf (by decide) _) ⟨rfl, rfl, rfl⟩ rfl (fun k hk => absurd hk (Nat.not_lt_zero _)) hpn
def pTC (n : Nat) (t : Nat → Nat) (p : Nat) (w : WS) : OT → WS → Prop := fun o w2 => o = .inl (some (.int (bI (cmdAt n t p).1.isSome))) ∧ w2.1 106 1 = nI (cmdAt n t p).2 ∧ frL [102, 103, 106] w w2 ∧ ∀ c, (cmdAt n t p).1 = some c → hC_ w2 c
theorem pTC_of {n : Nat} {t : Nat → Nat} {p : Nat} {w w2 : WS} {v : Int32} {y : Option Cmd} {q : Nat} (e : cmdAt n t p = (y, q)) (hv : v = bI y.isSome) (h1 : w2.1 106 1 = nI q) (hf : frL [102, 103, 106] w w2) (hc : ∀ c, y = some c → hC_ w2 c) : pTC n t p w (.inl (some (.int v))) w2 := by
  unfold pTC
  rw [e]
  subst hv
  exact ⟨rfl, h1, hf, hc⟩
abbrev wB (w : WS) (k : Int32) (p : Nat) : WS := wPl (wSet w k (-1) (-1)) (p + 1)
theorem fr_wB {w : WS} {k : Int32} {p : Nat} : frL [102, 103, 106] w (wB w k p) := frL_tr (frL_cs frL_rf (by decide) _) fr_wPl
abbrev wF (w : WS) (r j : Nat) (x : Option Nat) : WS := cs_ (wPl w r) 102 (upd (w.1 102) j (oI x))
theorem fr_wF {w : WS} {r j : Nat} {x : Option Nat} : frL [102, 103, 106] w (wF w r j x) := frL_cs fr_wPl (by decide) _
theorem pSg_t {n : Nat} {t : Nat → Nat} {p s : Nat} (h : tSg n t p s = true) : pSg n t p s = p + 1 := by unfold pSg; rw [if_pos h]
theorem pSg_f {n : Nat} {t : Nat → Nat} {p s : Nat} (h : tSg n t p s = false) : pSg n t p s = p := by unfold pSg; rw [h]; rfl
theorem tSg_lt {n : Nat} {t : Nat → Nat} {p s : Nat} (h : tSg n t p s = true) : p < n := (of_decide_eq_true h).1
set_option maxRecDepth 4000 in
theorem qX7_takeCommand_paint {G : GX} {w : WS} {n : Nat} {t : Nat → Nat} (hi : inA n t w) {p : Nat} (hp : w.1 106 1 = nI p) (hlt : p < n) (ht : t p = 112) : ∃ o w2, (pTC n t p w o w2) ∧ Big G 5 0 mX7_takeCommand [.ref 106, .ref 102] w o w2 := by
  have hcm : cmdAt n t p = cPa n t (p + 1) := by
    unfold cmdAt
    rw [if_neg (fun q => q hlt), if_pos ht]
  refine bx_of (P := pTC n t p w) (by decide +kernel) (Nat.le_of_ble_eq_true rfl) ?_
  show Ex G 5 0 mX7_takeCommand 0 [some (.ref 106), some (.ref 102), none] [] w _
  refine ex_s (fun _ => ev_aload_n dX7_takeCommand_0 rfl) ?_
  refine ex_s (fun _ => ev_getR fX7_12 dX7_takeCommand_1 (by decide) sh106 rfl) ?_
  refine ex_s (fun _ => ev_aload_n dX7_takeCommand_4 rfl) ?_
  refine ex_s (fun _ => ev_getI fX7_18 dX7_takeCommand_5 (by decide) sh106 rfl) ?_
  refine ex_s (fun _ => ev_top hp) ?_
  refine ex_s (fun _ => ev_callV kX7_39 co104 (qX7_sgn hi (Nat.le_of_lt hlt)) dX7_takeCommand_8 rfl (by decide) (by decide) rfl) ?_
  refine ex_s (fun _ => ev_top (y := nI 112) (by unfold sgv; rw [if_pos hlt, ht])) ?_
  refine ex_s (fun _ => ev_ist2 dX7_takeCommand_11 (by decide) rfl) ?_
  refine ex_s (fun _ => ev_aload_n dX7_takeCommand_12 rfl) ?_
  refine ex_s (fun _ => ev_iload_n dX7_takeCommand_13 rfl) ?_
  refine ex_s (fun _ => ev_iconst dX7_takeCommand_14 icm1) ?_
  refine ex_s (fun _ => ev_iconst dX7_takeCommand_15 icm1) ?_
  refine ex_s (fun _ => ev_callV kX7_43 co102 qX2_set dX7_takeCommand_16 rfl (by decide) (by decide) rfl) ?_
  refine ex_s (fun _ => ev_aload_n dX7_takeCommand_19 rfl) ?_
  refine ex_s (fun _ => ev_dup dX7_takeCommand_20 rfl) ?_
  refine ex_s (fun _ => ev_getI fX7_18 dX7_takeCommand_21 (by decide) sh106 rfl) ?_
  refine ex_s (fun _ => ev_top hp) ?_
  refine ex_s (fun _ => ev_iconst dX7_takeCommand_24 ic1) ?_
  refine ex_s (fun _ => ev_iadd dX7_takeCommand_25) ?_
  refine ex_s (fun _ => ev_top (nI_add _ _)) ?_
  refine ex_s (fun _ => ev_put fX7_18 dX7_takeCommand_26 rfl rfl (by decide) sh106 rfl) ?_
  refine ex_s (fun _ => ev_w (w' := wB w (nI 112) p) rfl) ?_
  refine ex_s (fun _ => ev_iload_n dX7_takeCommand_29 rfl) ?_
  refine ex_s (fun _ => ev_tableIn (tgt := 108) (off := 78) dX7_takeCommand_30 (by decide) (by decide) (by decide +kernel) (by decide)) ?_
  refine ex_s (fun _ => ev_aload_n dX7_takeCommand_108 rfl) ?_
  refine ex_s (fun _ => ev_aload_n dX7_takeCommand_109 rfl) ?_
  obtain ⟨x, r, e1⟩ : ∃ x r, tDs n t (p + 1) = (x, r) := ⟨_, _, rfl⟩
  have hi0 : inA n t (wB w (nI 112) p) := inA_fr hi fr_wB (by decide) (by decide)
  refine ex_s (fun _ => ev_callV kX7_49 co106 (qX7_takeCell (w := wB w (nI 112) p) (p := p + 1) hi0 rfl (by omega) e1) dX7_takeCommand_110 rfl (by decide) (by decide) rfl) ?_
  refine ex_b0 (fun _ => ev_ifb_eq (tgt := 129) dX7_takeCommand_113 (by decide)) (fun hc113 => ?_) (fun hc113 => ?_)
  · obtain rfl : x = none := by
      cases x with
      | none => rfl
      | some y => cases hc113
    refine ex_s (fun _ => ev_iconst dX7_takeCommand_129 ic0) ?_
    exact ⟨_, _, (by exact pTC_of (hcm.trans (show _ = (none, r) by unfold cPa; rw [e1])) rfl rfl (frL_tr fr_wB fr_wF) (fun c hc => by cases hc)), ev_iret dX7_takeCommand_130 rfl (by decide) rfl rfl⟩
  · obtain ⟨c, rfl⟩ := Option.isSome_iff_exists.mp hc113
    have hb := tDs_ok e1 (by omega)
    obtain ⟨z, s, e2⟩ : ∃ z s, tRm n t r true = (z, s) := ⟨_, _, rfl⟩
    obtain ⟨w3, hB3, g1, g2, g3, g4, g5⟩ := qX7_takeRealm (G := G) (w := wF (wB w (nI 112) p) r 1 (some c)) (inA_fr hi0 fr_wF (by decide) (by decide)) rfl hb.2.1 e2
    replace hB3 : Big G 3 0 mX7_takeRealm [.ref 106, .ref 102, .int (nI 1)] _ _ w3 := hB3
    refine ex_s (fun _ => ev_aload_n dX7_takeCommand_116 rfl) ?_
    refine ex_s (fun _ => ev_aload_n dX7_takeCommand_117 rfl) ?_
    refine ex_s (fun _ => ev_iconst dX7_takeCommand_118 ic1) ?_
    refine ex_s (fun _ => ev_callV kX7_52 co106 hB3 dX7_takeCommand_119 rfl (by decide) (by decide) rfl) ?_
    refine ex_b0 (fun _ => ev_ifb_eq (tgt := 129) dX7_takeCommand_122 (by decide)) (fun hc122 => ?_) (fun hc122 => ?_)
    · obtain rfl : z = none := by
        cases z with
        | none => rfl
        | some y => cases hc122
      refine ex_s (fun _ => ev_iconst dX7_takeCommand_129 ic0) ?_
      exact ⟨_, _, (by exact pTC_of (hcm.trans (show _ = (none, s) by unfold cPa; rw [e1]; simp only [e2])) rfl g1 (frL_tr (frL_tr fr_wB fr_wF) g2) (fun c hc => by cases hc)), ev_iret dX7_takeCommand_130 rfl (by decide) rfl rfl⟩
    · obtain ⟨y, rfl⟩ := Option.isSome_iff_exists.mp hc122
      refine ex_s (fun _ => ev_iconst dX7_takeCommand_125 ic1) ?_
      refine ex_s (fun _ => ev_goto (tgt := 130) dX7_takeCommand_126 (by decide)) ?_
      exact ⟨_, _, (by exact pTC_of (hcm.trans (show _ = (some (.inl (c, oI y)), s) by unfold cPa; rw [e1]; simp only [e2])) rfl g1 (frL_tr (frL_tr fr_wB fr_wF) g2) (fun q hq => by cases hq; exact ⟨g3.trans rfl, g4.trans rfl, g5 y rfl⟩)), ev_iret dX7_takeCommand_130 rfl (by decide) rfl rfl⟩
set_option maxRecDepth 4000 in
theorem qX7_takeCommand_shave {G : GX} {w : WS} {n : Nat} {t : Nat → Nat} (hi : inA n t w) {p : Nat} (hp : w.1 106 1 = nI p) (hlt : p < n) (ht : t p = 115) : ∃ o w2, (pTC n t p w o w2) ∧ Big G 5 0 mX7_takeCommand [.ref 106, .ref 102] w o w2 := by
  have hcm : cmdAt n t p = cSh n t (p + 1) := by
    unfold cmdAt
    rw [if_neg (fun q => q hlt), if_neg (by rw [ht]; decide), if_pos ht]
  refine bx_of (P := pTC n t p w) (by decide +kernel) (Nat.le_of_ble_eq_true rfl) ?_
  show Ex G 5 0 mX7_takeCommand 0 [some (.ref 106), some (.ref 102), none] [] w _
  refine ex_s (fun _ => ev_aload_n dX7_takeCommand_0 rfl) ?_
  refine ex_s (fun _ => ev_getR fX7_12 dX7_takeCommand_1 (by decide) sh106 rfl) ?_
  refine ex_s (fun _ => ev_aload_n dX7_takeCommand_4 rfl) ?_
  refine ex_s (fun _ => ev_getI fX7_18 dX7_takeCommand_5 (by decide) sh106 rfl) ?_
  refine ex_s (fun _ => ev_top hp) ?_
  refine ex_s (fun _ => ev_callV kX7_39 co104 (qX7_sgn hi (Nat.le_of_lt hlt)) dX7_takeCommand_8 rfl (by decide) (by decide) rfl) ?_
  refine ex_s (fun _ => ev_top (y := nI 115) (by unfold sgv; rw [if_pos hlt, ht])) ?_
  refine ex_s (fun _ => ev_ist2 dX7_takeCommand_11 (by decide) rfl) ?_
  refine ex_s (fun _ => ev_aload_n dX7_takeCommand_12 rfl) ?_
  refine ex_s (fun _ => ev_iload_n dX7_takeCommand_13 rfl) ?_
  refine ex_s (fun _ => ev_iconst dX7_takeCommand_14 icm1) ?_
  refine ex_s (fun _ => ev_iconst dX7_takeCommand_15 icm1) ?_
  refine ex_s (fun _ => ev_callV kX7_43 co102 qX2_set dX7_takeCommand_16 rfl (by decide) (by decide) rfl) ?_
  refine ex_s (fun _ => ev_aload_n dX7_takeCommand_19 rfl) ?_
  refine ex_s (fun _ => ev_dup dX7_takeCommand_20 rfl) ?_
  refine ex_s (fun _ => ev_getI fX7_18 dX7_takeCommand_21 (by decide) sh106 rfl) ?_
  refine ex_s (fun _ => ev_top hp) ?_
  refine ex_s (fun _ => ev_iconst dX7_takeCommand_24 ic1) ?_
  refine ex_s (fun _ => ev_iadd dX7_takeCommand_25) ?_
  refine ex_s (fun _ => ev_top (nI_add _ _)) ?_
  refine ex_s (fun _ => ev_put fX7_18 dX7_takeCommand_26 rfl rfl (by decide) sh106 rfl) ?_
  refine ex_s (fun _ => ev_w (w' := wB w (nI 115) p) rfl) ?_
  refine ex_s (fun _ => ev_iload_n dX7_takeCommand_29 rfl) ?_
  refine ex_s (fun _ => ev_tableIn (tgt := 131) (off := 101) dX7_takeCommand_30 (by decide) (by decide) (by decide +kernel) (by decide)) ?_
  refine ex_s (fun _ => ev_aload_n dX7_takeCommand_131 rfl) ?_
  refine ex_s (fun _ => ev_aload_n dX7_takeCommand_132 rfl) ?_
  obtain ⟨x, r, e1⟩ : ∃ x r, tDs n t (p + 1) = (x, r) := ⟨_, _, rfl⟩
  have hi0 : inA n t (wB w (nI 115) p) := inA_fr hi fr_wB (by decide) (by decide)
  refine ex_s (fun _ => ev_callV kX7_49 co106 (qX7_takeCell (w := wB w (nI 115) p) (p := p + 1) hi0 rfl (by omega) e1) dX7_takeCommand_133 rfl (by decide) (by decide) rfl) ?_
  refine ex_b0 (fun _ => ev_ifb_eq (tgt := 152) dX7_takeCommand_136 (by decide)) (fun hc136 => ?_) (fun hc136 => ?_)
  · obtain rfl : x = none := by
      cases x with
      | none => rfl
      | some y => cases hc136
    refine ex_s (fun _ => ev_iconst dX7_takeCommand_152 ic0) ?_
    exact ⟨_, _, (by exact pTC_of (hcm.trans (show _ = (none, r) by unfold cSh; rw [e1])) rfl rfl (frL_tr fr_wB fr_wF) (fun c hc => by cases hc)), ev_iret dX7_takeCommand_153 rfl (by decide) rfl rfl⟩
  · obtain ⟨c, rfl⟩ := Option.isSome_iff_exists.mp hc136
    have hb := tDs_ok e1 (by omega)
    obtain ⟨z, s, e2⟩ : ∃ z s, tRm n t r false = (z, s) := ⟨_, _, rfl⟩
    obtain ⟨w3, hB3, g1, g2, g3, g4, g5⟩ := qX7_takeRealm (G := G) (w := wF (wB w (nI 115) p) r 1 (some c)) (inA_fr hi0 fr_wF (by decide) (by decide)) rfl hb.2.1 e2
    replace hB3 : Big G 3 0 mX7_takeRealm [.ref 106, .ref 102, .int (nI 0)] _ _ w3 := hB3
    refine ex_s (fun _ => ev_aload_n dX7_takeCommand_139 rfl) ?_
    refine ex_s (fun _ => ev_aload_n dX7_takeCommand_140 rfl) ?_
    refine ex_s (fun _ => ev_iconst dX7_takeCommand_141 ic0) ?_
    refine ex_s (fun _ => ev_callV kX7_52 co106 hB3 dX7_takeCommand_142 rfl (by decide) (by decide) rfl) ?_
    refine ex_b0 (fun _ => ev_ifb_eq (tgt := 152) dX7_takeCommand_145 (by decide)) (fun hc145 => ?_) (fun hc145 => ?_)
    · obtain rfl : z = none := by
        cases z with
        | none => rfl
        | some y => cases hc145
      refine ex_s (fun _ => ev_iconst dX7_takeCommand_152 ic0) ?_
      exact ⟨_, _, (by exact pTC_of (hcm.trans (show _ = (none, s) by unfold cSh; rw [e1]; simp only [e2])) rfl g1 (frL_tr (frL_tr fr_wB fr_wF) g2) (fun c hc => by cases hc)), ev_iret dX7_takeCommand_153 rfl (by decide) rfl rfl⟩
    · obtain ⟨y, rfl⟩ := Option.isSome_iff_exists.mp hc145
      refine ex_s (fun _ => ev_iconst dX7_takeCommand_148 ic1) ?_
      refine ex_s (fun _ => ev_goto (tgt := 153) dX7_takeCommand_149 (by decide)) ?_
      exact ⟨_, _, (by exact pTC_of (hcm.trans (show _ = (some (.inr (.inl (c, y.getD 0))), s) by unfold cSh; rw [e1]; simp only [e2])) rfl g1 (frL_tr (frL_tr fr_wB fr_wF) g2) (fun q hq => by cases hq; exact ⟨g3.trans rfl, g4.trans rfl, (g5 y rfl).trans (by cases y with | none => exact absurd ((tRm_ok e2 hb.2.1).2.2.2.1 rfl) (by decide) | some k => rfl)⟩)), ev_iret dX7_takeCommand_153 rfl (by decide) rfl rfl⟩
set_option maxRecDepth 4000 in
theorem qX7_takeCommand_dragon {G : GX} {w : WS} {n : Nat} {t : Nat → Nat} (hi : inA n t w) {p : Nat} (hp : w.1 106 1 = nI p) (hlt : p < n) (ht : t p = 100) : ∃ o w2, (pTC n t p w o w2) ∧ Big G 5 0 mX7_takeCommand [.ref 106, .ref 102] w o w2 := by
  have hcm : cmdAt n t p = cDr n t (p + 1) := by
    unfold cmdAt
    rw [if_neg (fun q => q hlt), if_neg (by rw [ht]; decide), if_neg (by rw [ht]; decide), if_neg (by rw [ht]; decide), if_pos ht]
  refine bx_of (P := pTC n t p w) (by decide +kernel) (Nat.le_of_ble_eq_true rfl) ?_
  show Ex G 5 0 mX7_takeCommand 0 [some (.ref 106), some (.ref 102), none] [] w _
  refine ex_s (fun _ => ev_aload_n dX7_takeCommand_0 rfl) ?_
  refine ex_s (fun _ => ev_getR fX7_12 dX7_takeCommand_1 (by decide) sh106 rfl) ?_
  refine ex_s (fun _ => ev_aload_n dX7_takeCommand_4 rfl) ?_
  refine ex_s (fun _ => ev_getI fX7_18 dX7_takeCommand_5 (by decide) sh106 rfl) ?_
  refine ex_s (fun _ => ev_top hp) ?_
  refine ex_s (fun _ => ev_callV kX7_39 co104 (qX7_sgn hi (Nat.le_of_lt hlt)) dX7_takeCommand_8 rfl (by decide) (by decide) rfl) ?_
  refine ex_s (fun _ => ev_top (y := nI 100) (by unfold sgv; rw [if_pos hlt, ht])) ?_
  refine ex_s (fun _ => ev_ist2 dX7_takeCommand_11 (by decide) rfl) ?_
  refine ex_s (fun _ => ev_aload_n dX7_takeCommand_12 rfl) ?_
  refine ex_s (fun _ => ev_iload_n dX7_takeCommand_13 rfl) ?_
  refine ex_s (fun _ => ev_iconst dX7_takeCommand_14 icm1) ?_
  refine ex_s (fun _ => ev_iconst dX7_takeCommand_15 icm1) ?_
  refine ex_s (fun _ => ev_callV kX7_43 co102 qX2_set dX7_takeCommand_16 rfl (by decide) (by decide) rfl) ?_
  refine ex_s (fun _ => ev_aload_n dX7_takeCommand_19 rfl) ?_
  refine ex_s (fun _ => ev_dup dX7_takeCommand_20 rfl) ?_
  refine ex_s (fun _ => ev_getI fX7_18 dX7_takeCommand_21 (by decide) sh106 rfl) ?_
  refine ex_s (fun _ => ev_top hp) ?_
  refine ex_s (fun _ => ev_iconst dX7_takeCommand_24 ic1) ?_
  refine ex_s (fun _ => ev_iadd dX7_takeCommand_25) ?_
  refine ex_s (fun _ => ev_top (nI_add _ _)) ?_
  refine ex_s (fun _ => ev_put fX7_18 dX7_takeCommand_26 rfl rfl (by decide) sh106 rfl) ?_
  refine ex_s (fun _ => ev_w (w' := wB w (nI 100) p) rfl) ?_
  refine ex_s (fun _ => ev_iload_n dX7_takeCommand_29 rfl) ?_
  refine ex_s (fun _ => ev_tableIn (tgt := 202) (off := 172) dX7_takeCommand_30 (by decide) (by decide) (by decide +kernel) (by decide)) ?_
  refine ex_s (fun _ => ev_aload_n dX7_takeCommand_202 rfl) ?_
  refine ex_s (fun _ => ev_aload_n dX7_takeCommand_203 rfl) ?_
  obtain ⟨x, r, e1⟩ : ∃ x r, tDs n t (p + 1) = (x, r) := ⟨_, _, rfl⟩
  have hi0 : inA n t (wB w (nI 100) p) := inA_fr hi fr_wB (by decide) (by decide)
  refine ex_s (fun _ => ev_callV kX7_49 co106 (qX7_takeCell (w := wB w (nI 100) p) (p := p + 1) hi0 rfl (by omega) e1) dX7_takeCommand_204 rfl (by decide) (by decide) rfl) ?_
  refine ex_b0 (fun _ => ev_ifb_eq (tgt := 231) dX7_takeCommand_207 (by decide)) (fun hc207 => ?_) (fun hc207 => ?_)
  · obtain rfl : x = none := by
      cases x with
      | none => rfl
      | some y => cases hc207
    refine ex_s (fun _ => ev_iconst dX7_takeCommand_231 ic0) ?_
    exact ⟨_, _, (by exact pTC_of (hcm.trans (show _ = (none, r) by unfold cDr; rw [e1])) rfl rfl (frL_tr fr_wB fr_wF) (fun c hc => by cases hc)), ev_iret dX7_takeCommand_232 rfl (by decide) rfl rfl⟩
  · obtain ⟨c, rfl⟩ := Option.isSome_iff_exists.mp hc207
    have hb := tDs_ok e1 (by omega)
    have hi1 : inA n t (wF (wB w (nI 100) p) r 1 (some c)) := inA_fr hi0 fr_wF (by decide) (by decide)
    refine ex_s (fun _ => ev_aload_n dX7_takeCommand_210 rfl) ?_
    refine ex_s (fun _ => ev_bipush (v := nI 47) dX7_takeCommand_211 (by decide)) ?_
    refine ex_s (fun _ => ev_callV kX7_32 co106 (qX7_takeSign (w := (wF (wB w (nI 100) p) r 1 (some c))) hi1 rfl hb.2.1 (by decide)) dX7_takeCommand_213 rfl (by decide) (by decide) rfl) ?_
    refine ex_b0 (fun _ => ev_ifb_eq (tgt := 231) dX7_takeCommand_216 (by decide)) (fun hc216 => ?_) (fun hc216 => ?_)
    · rw [pSg_f hc216]
      refine ex_s (fun _ => ev_iconst dX7_takeCommand_231 ic0) ?_
      exact ⟨_, _, (by exact pTC_of (hcm.trans (show _ = (none, r) by unfold cDr; rw [e1]; simp only [hc216]; rfl)) rfl rfl (frL_tr (frL_tr fr_wB fr_wF) fr_wPl) (fun c hc => by cases hc)), ev_iret dX7_takeCommand_232 rfl (by decide) rfl rfl⟩
    · rw [pSg_t hc216]
      have hrn := tSg_lt hc216
      obtain ⟨x2, s, e2⟩ : ∃ x s, tDs n t (r + 1) = (x, s) := ⟨_, _, rfl⟩
      have hi2 : inA n t (wPl (wF (wB w (nI 100) p) r 1 (some c)) (r + 1)) := inA_fr hi1 fr_wPl (by decide) (by decide)
      refine ex_s (fun _ => ev_aload_n dX7_takeCommand_219 rfl) ?_
      refine ex_s (fun _ => ev_aload_n dX7_takeCommand_220 rfl) ?_
      refine ex_s (fun _ => ev_callV kX7_56 co106 (qX7_takeNumber (w := wPl (wF (wB w (nI 100) p) r 1 (some c)) (r + 1)) (p := r + 1) hi2 rfl (by omega) e2) dX7_takeCommand_221 rfl (by decide) (by decide) rfl) ?_
      refine ex_b0 (fun _ => ev_ifb_eq (tgt := 231) dX7_takeCommand_224 (by decide)) (fun hc224 => ?_) (fun hc224 => ?_)
      · obtain rfl : x2 = none := by
          cases x2 with
          | none => rfl
          | some y => cases hc224
        refine ex_s (fun _ => ev_iconst dX7_takeCommand_231 ic0) ?_
        exact ⟨_, _, (by exact pTC_of (hcm.trans (show _ = (none, s) by unfold cDr; rw [e1]; simp only [hc216, e2]; rfl)) rfl rfl (frL_tr (frL_tr (frL_tr fr_wB fr_wF) fr_wPl) fr_wF) (fun c hc => by cases hc)), ev_iret dX7_takeCommand_232 rfl (by decide) rfl rfl⟩
      · obtain ⟨v, rfl⟩ := Option.isSome_iff_exists.mp hc224
        refine ex_s (fun _ => ev_iconst dX7_takeCommand_227 ic1) ?_
        refine ex_s (fun _ => ev_goto (tgt := 232) dX7_takeCommand_228 (by decide)) ?_
        exact ⟨_, _, (by exact pTC_of (hcm.trans (show _ = (some (.inr (.inr (.inr (.inr (.inr (.inl (c, v))))))), s) by unfold cDr; rw [e1]; simp only [hc216, e2]; rfl)) rfl rfl (frL_tr (frL_tr (frL_tr fr_wB fr_wF) fr_wPl) fr_wF) (fun q hq => by cases hq; exact ⟨rfl, rfl, rfl⟩)), ev_iret dX7_takeCommand_232 rfl (by decide) rfl rfl⟩
set_option maxRecDepth 4000 in
theorem qX7_takeCommand_river {G : GX} {w : WS} {n : Nat} {t : Nat → Nat} (hi : inA n t w) {p : Nat} (hp : w.1 106 1 = nI p) (hlt : p < n) (ht : t p = 114) : ∃ o w2, (pTC n t p w o w2) ∧ Big G 5 0 mX7_takeCommand [.ref 106, .ref 102] w o w2 := by
  have hcm : cmdAt n t p = cRi n t (p + 1) := by
    unfold cmdAt
    rw [if_neg (fun q => q hlt), if_neg (by rw [ht]; decide), if_neg (by rw [ht]; decide), if_pos ht]
  refine bx_of (P := pTC n t p w) (by decide +kernel) (Nat.le_of_ble_eq_true rfl) ?_
  show Ex G 5 0 mX7_takeCommand 0 [some (.ref 106), some (.ref 102), none] [] w _
  refine ex_s (fun _ => ev_aload_n dX7_takeCommand_0 rfl) ?_
  refine ex_s (fun _ => ev_getR fX7_12 dX7_takeCommand_1 (by decide) sh106 rfl) ?_
  refine ex_s (fun _ => ev_aload_n dX7_takeCommand_4 rfl) ?_
  refine ex_s (fun _ => ev_getI fX7_18 dX7_takeCommand_5 (by decide) sh106 rfl) ?_
  refine ex_s (fun _ => ev_top hp) ?_
  refine ex_s (fun _ => ev_callV kX7_39 co104 (qX7_sgn hi (Nat.le_of_lt hlt)) dX7_takeCommand_8 rfl (by decide) (by decide) rfl) ?_
  refine ex_s (fun _ => ev_top (y := nI 114) (by unfold sgv; rw [if_pos hlt, ht])) ?_
  refine ex_s (fun _ => ev_ist2 dX7_takeCommand_11 (by decide) rfl) ?_
  refine ex_s (fun _ => ev_aload_n dX7_takeCommand_12 rfl) ?_
  refine ex_s (fun _ => ev_iload_n dX7_takeCommand_13 rfl) ?_
  refine ex_s (fun _ => ev_iconst dX7_takeCommand_14 icm1) ?_
  refine ex_s (fun _ => ev_iconst dX7_takeCommand_15 icm1) ?_
  refine ex_s (fun _ => ev_callV kX7_43 co102 qX2_set dX7_takeCommand_16 rfl (by decide) (by decide) rfl) ?_
  refine ex_s (fun _ => ev_aload_n dX7_takeCommand_19 rfl) ?_
  refine ex_s (fun _ => ev_dup dX7_takeCommand_20 rfl) ?_
  refine ex_s (fun _ => ev_getI fX7_18 dX7_takeCommand_21 (by decide) sh106 rfl) ?_
  refine ex_s (fun _ => ev_top hp) ?_
  refine ex_s (fun _ => ev_iconst dX7_takeCommand_24 ic1) ?_
  refine ex_s (fun _ => ev_iadd dX7_takeCommand_25) ?_
  refine ex_s (fun _ => ev_top (nI_add _ _)) ?_
  refine ex_s (fun _ => ev_put fX7_18 dX7_takeCommand_26 rfl rfl (by decide) sh106 rfl) ?_
  refine ex_s (fun _ => ev_w (w' := wB w (nI 114) p) rfl) ?_
  refine ex_s (fun _ => ev_iload_n dX7_takeCommand_29 rfl) ?_
  refine ex_s (fun _ => ev_tableIn (tgt := 154) (off := 124) dX7_takeCommand_30 (by decide) (by decide) (by decide +kernel) (by decide)) ?_
  refine ex_s (fun _ => ev_aload_n dX7_takeCommand_154 rfl) ?_
  refine ex_s (fun _ => ev_aload_n dX7_takeCommand_155 rfl) ?_
  obtain ⟨x, r, e1⟩ : ∃ x r, tDs n t (p + 1) = (x, r) := ⟨_, _, rfl⟩
  have hi0 : inA n t (wB w (nI 114) p) := inA_fr hi fr_wB (by decide) (by decide)
  refine ex_s (fun _ => ev_callV kX7_49 co106 (qX7_takeCell (w := wB w (nI 114) p) (p := p + 1) hi0 rfl (by omega) e1) dX7_takeCommand_156 rfl (by decide) (by decide) rfl) ?_
  refine ex_b0 (fun _ => ev_ifb_eq (tgt := 200) dX7_takeCommand_159 (by decide)) (fun hc159 => ?_) (fun hc159 => ?_)
  · obtain rfl : x = none := by
      cases x with
      | none => rfl
      | some y => cases hc159
    refine ex_s (fun _ => ev_iconst dX7_takeCommand_200 ic0) ?_
    exact ⟨_, _, (by exact pTC_of (hcm.trans (show _ = (none, r) by unfold cRi; rw [e1])) rfl rfl (frL_tr fr_wB fr_wF) (fun c hc => by cases hc)), ev_iret dX7_takeCommand_201 rfl (by decide) rfl rfl⟩
  · obtain ⟨c, rfl⟩ := Option.isSome_iff_exists.mp hc159
    have hb := tDs_ok e1 (by omega)
    have hi1 : inA n t (wF (wB w (nI 114) p) r 1 (some c)) := inA_fr hi0 fr_wF (by decide) (by decide)
    refine ex_s (fun _ => ev_aload_n dX7_takeCommand_162 rfl) ?_
    refine ex_s (fun _ => ev_bipush (v := nI 58) dX7_takeCommand_163 (by decide)) ?_
    refine ex_s (fun _ => ev_callV kX7_32 co106 (qX7_takeSign (w := (wF (wB w (nI 114) p) r 1 (some c))) hi1 rfl hb.2.1 (by decide)) dX7_takeCommand_165 rfl (by decide) (by decide) rfl) ?_
    refine ex_b0 (fun _ => ev_ifb_eq (tgt := 200) dX7_takeCommand_168 (by decide)) (fun hc168 => ?_) (fun hc168 => ?_)
    · rw [pSg_f hc168]
      refine ex_s (fun _ => ev_iconst dX7_takeCommand_200 ic0) ?_
      exact ⟨_, _, (by exact pTC_of (hcm.trans (show _ = (none, r) by unfold cRi; rw [e1]; simp only [hc168]; rfl)) rfl rfl (frL_tr (frL_tr fr_wB fr_wF) fr_wPl) (fun c hc => by cases hc)), ev_iret dX7_takeCommand_201 rfl (by decide) rfl rfl⟩
    · rw [pSg_t hc168]
      have hrn := tSg_lt hc168
      have hi2 : inA n t (wPl (wF (wB w (nI 114) p) r 1 (some c)) (r + 1)) := inA_fr hi1 fr_wPl (by decide) (by decide)
      obtain ⟨_, w4, ⟨rfl, k1, k2, k3, k4, k5⟩, hB4⟩ := qX7_takeSteps (G := G) hi2 (p := r + 1) rfl (by omega)
      have hL := stN_le (n := n) (t := t) (f := 12) (p := r + 1) (by omega)
      have hi4 : inA n t w4 := inA_fr hi2 k2 (by decide) (by decide)
      have f4 : frL [102, 103, 106] w w4 := frL_tr (frL_tr (frL_tr fr_wB fr_wF) fr_wPl) k2
      refine ex_s (fun _ => ev_aload_n dX7_takeCommand_171 rfl) ?_
      refine ex_s (fun _ => ev_aload_n dX7_takeCommand_172 rfl) ?_
      refine ex_s (fun _ => ev_callV kX7_36 co106 hB4 dX7_takeCommand_173 rfl (by decide) (by decide) rfl) ?_
      refine ex_b0 (fun _ => ev_ifb_eq (tgt := 200) dX7_takeCommand_176 (by decide)) (fun hc176 => ?_) (fun hc176 => ?_)
      · refine ex_s (fun _ => ev_iconst dX7_takeCommand_200 ic0) ?_
        exact ⟨_, _, (by exact pTC_of (hcm.trans (show _ = (none, r + 1 + stN n t 12 (r + 1)) by unfold cRi; rw [e1]; dsimp only; rw [hc168, if_pos rfl, if_neg (of_decide_eq_false hc176)])) rfl k1 f4 (fun c hc => by cases hc)), ev_iret dX7_takeCommand_201 rfl (by decide) rfl rfl⟩
      · have h0 : 0 < stN n t 12 (r + 1) := of_decide_eq_true hc176
        refine ex_s (fun _ => ev_aload_n dX7_takeCommand_179 rfl) ?_
        refine ex_s (fun _ => ev_bipush (v := nI 61) dX7_takeCommand_180 (by decide)) ?_
        refine ex_s (fun _ => ev_callV kX7_32 co106 (qX7_takeSign (w := w4) hi4 k1 hL.2 (by decide)) dX7_takeCommand_182 rfl (by decide) (by decide) rfl) ?_
        refine ex_b0 (fun _ => ev_ifb_eq (tgt := 200) dX7_takeCommand_185 (by decide)) (fun hc185 => ?_) (fun hc185 => ?_)
        · rw [pSg_f hc185]
          refine ex_s (fun _ => ev_iconst dX7_takeCommand_200 ic0) ?_
          exact ⟨_, _, (by exact pTC_of (hcm.trans (show _ = (none, r + 1 + stN n t 12 (r + 1)) by unfold cRi; rw [e1]; dsimp only; rw [hc168, if_pos rfl, if_pos h0, hc185]; rfl)) rfl rfl (frL_tr f4 fr_wPl) (fun c hc => by cases hc)), ev_iret dX7_takeCommand_201 rfl (by decide) rfl rfl⟩
        · rw [pSg_t hc185]
          have hrn2 := tSg_lt hc185
          obtain ⟨x2, s, e2⟩ : ∃ x s, tDs n t (r + 1 + stN n t 12 (r + 1) + 1) = (x, s) := ⟨_, _, rfl⟩
          have hi5 : inA n t (wPl w4 (r + 1 + stN n t 12 (r + 1) + 1)) := inA_fr hi4 fr_wPl (by decide) (by decide)
          refine ex_s (fun _ => ev_aload_n dX7_takeCommand_188 rfl) ?_
          refine ex_s (fun _ => ev_aload_n dX7_takeCommand_189 rfl) ?_
          refine ex_s (fun _ => ev_callV kX7_56 co106 (qX7_takeNumber (w := wPl w4 (r + 1 + stN n t 12 (r + 1) + 1)) (p := r + 1 + stN n t 12 (r + 1) + 1) hi5 rfl (by omega) e2) dX7_takeCommand_190 rfl (by decide) (by decide) rfl) ?_
          refine ex_b0 (fun _ => ev_ifb_eq (tgt := 200) dX7_takeCommand_193 (by decide)) (fun hc193 => ?_) (fun hc193 => ?_)
          · obtain rfl : x2 = none := by
              cases x2 with
              | none => rfl
              | some y => cases hc193
            refine ex_s (fun _ => ev_iconst dX7_takeCommand_200 ic0) ?_
            exact ⟨_, _, (by exact pTC_of (hcm.trans (show _ = (none, s) by unfold cRi; rw [e1]; dsimp only; rw [hc168, if_pos rfl, if_pos h0, hc185, if_pos rfl, e2])) rfl rfl (frL_tr (frL_tr f4 fr_wPl) fr_wF) (fun c hc => by cases hc)), ev_iret dX7_takeCommand_201 rfl (by decide) rfl rfl⟩
          · obtain ⟨v, rfl⟩ := Option.isSome_iff_exists.mp hc193
            refine ex_s (fun _ => ev_iconst dX7_takeCommand_196 ic1) ?_
            refine ex_s (fun _ => ev_goto (tgt := 201) dX7_takeCommand_197 (by decide)) ?_
            exact ⟨_, _, (by exact pTC_of (hcm.trans (show _ = (some (.inr (.inr (.inr (.inl (c, v, stN n t 12 (r + 1), stD n t (r + 1)))))), s) by unfold cRi; rw [e1]; dsimp only; rw [hc168, if_pos rfl, if_pos h0, hc185, if_pos rfl, e2])) rfl rfl (frL_tr (frL_tr f4 fr_wPl) fr_wF) (fun q hq => by cases hq; exact ⟨k3.1, k3.2.1, rfl, hL.1, k4, fun k hk => ⟨k5 k hk, (stD_at hk).2⟩⟩)), ev_iret dX7_takeCommand_201 rfl (by decide) rfl rfl⟩
set_option maxRecDepth 4000 in
theorem qX7_takeCommand_scale {G : GX} {w : WS} {n : Nat} {t : Nat → Nat} (hi : inA n t w) {p : Nat} (hp : w.1 106 1 = nI p) (hlt : p < n) (ht : t p = 109) : ∃ o w2, (pTC n t p w o w2) ∧ Big G 5 0 mX7_takeCommand [.ref 106, .ref 102] w o w2 := by
  have hcm : cmdAt n t p = cDg n t (p + 1) (fun a => .inr (.inr (.inl a))) := by
    unfold cmdAt
    rw [if_neg (fun q => q hlt), if_neg (by rw [ht]; decide), if_neg (by rw [ht]; decide), if_neg (by rw [ht]; decide), if_neg (by rw [ht]; decide), if_pos ht]
  have hi0 : inA n t (wB w (nI 109) p) := inA_fr hi fr_wB (by decide) (by decide)
  refine bx_of (P := pTC n t p w) (by decide +kernel) (Nat.le_of_ble_eq_true rfl) ?_
  show Ex G 5 0 mX7_takeCommand 0 [some (.ref 106), some (.ref 102), none] [] w _
  refine ex_s (fun _ => ev_aload_n dX7_takeCommand_0 rfl) ?_
  refine ex_s (fun _ => ev_getR fX7_12 dX7_takeCommand_1 (by decide) sh106 rfl) ?_
  refine ex_s (fun _ => ev_aload_n dX7_takeCommand_4 rfl) ?_
  refine ex_s (fun _ => ev_getI fX7_18 dX7_takeCommand_5 (by decide) sh106 rfl) ?_
  refine ex_s (fun _ => ev_top hp) ?_
  refine ex_s (fun _ => ev_callV kX7_39 co104 (qX7_sgn hi (Nat.le_of_lt hlt)) dX7_takeCommand_8 rfl (by decide) (by decide) rfl) ?_
  refine ex_s (fun _ => ev_top (y := nI 109) (by unfold sgv; rw [if_pos hlt, ht])) ?_
  refine ex_s (fun _ => ev_ist2 dX7_takeCommand_11 (by decide) rfl) ?_
  refine ex_s (fun _ => ev_aload_n dX7_takeCommand_12 rfl) ?_
  refine ex_s (fun _ => ev_iload_n dX7_takeCommand_13 rfl) ?_
  refine ex_s (fun _ => ev_iconst dX7_takeCommand_14 icm1) ?_
  refine ex_s (fun _ => ev_iconst dX7_takeCommand_15 icm1) ?_
  refine ex_s (fun _ => ev_callV kX7_43 co102 qX2_set dX7_takeCommand_16 rfl (by decide) (by decide) rfl) ?_
  refine ex_s (fun _ => ev_aload_n dX7_takeCommand_19 rfl) ?_
  refine ex_s (fun _ => ev_dup dX7_takeCommand_20 rfl) ?_
  refine ex_s (fun _ => ev_getI fX7_18 dX7_takeCommand_21 (by decide) sh106 rfl) ?_
  refine ex_s (fun _ => ev_top hp) ?_
  refine ex_s (fun _ => ev_iconst dX7_takeCommand_24 ic1) ?_
  refine ex_s (fun _ => ev_iadd dX7_takeCommand_25) ?_
  refine ex_s (fun _ => ev_top (nI_add _ _)) ?_
  refine ex_s (fun _ => ev_put fX7_18 dX7_takeCommand_26 rfl rfl (by decide) sh106 rfl) ?_
  refine ex_s (fun _ => ev_w (w' := wB w (nI 109) p) rfl) ?_
  refine ex_s (fun _ => ev_iload_n dX7_takeCommand_29 rfl) ?_
  refine ex_s (fun _ => ev_tableIn (tgt := 233) (off := 203) dX7_takeCommand_30 (by decide) (by decide) (by decide +kernel) (by decide)) ?_
  refine ex_s (fun _ => ev_aload_n dX7_takeCommand_233 rfl) ?_
  refine ex_s (fun _ => ev_aload_n dX7_takeCommand_234 rfl) ?_
  refine ex_s (fun _ => ev_callV kX7_59 co106 (qX7_takeDigit (w := wB w (nI 109) p) (p := p + 1) hi0 rfl (by omega)) dX7_takeCommand_235 rfl (by decide) (by decide) rfl) ?_
  refine ex_s (fun _ => ev_put fX7_63 dX7_takeCommand_238 rfl rfl (by decide) sh102 rfl) ?_
  refine ex_s (fun _ => ev_aload_n dX7_takeCommand_241 rfl) ?_
  refine ex_s (fun _ => ev_getI fX7_63 dX7_takeCommand_242 (by decide) sh102 rfl) ?_
  refine ex_s (fun _ => ev_iconst dX7_takeCommand_245 icm1) ?_
  refine ex_bp (fun _ => ev_icmp_eq (tgt := 253) dX7_takeCommand_246 (by decide)) (fun hc246 => ?_) (fun hc246 => ?_)
  · have e1 : tDg n t (p + 1) = none := (oI_none (fun k hk => by have := (tDg_lt hk).1; omega)).mp hc246
    refine ex_s (fun _ => ev_iconst dX7_takeCommand_253 ic0) ?_
    exact ⟨_, _, (by exact pTC_of (hcm.trans (show _ = (none, p + 1) by unfold cDg; rw [e1])) rfl (show nI (pDg n t (p + 1)) = _ by unfold pDg; rw [e1]; rfl) (frL_cs (frL_tr fr_wB fr_wPl) (by decide) _) (fun c hc => by cases hc)), ev_iret dX7_takeCommand_254 rfl (by decide) rfl rfl⟩
  · obtain ⟨a, e1⟩ : ∃ a, tDg n t (p + 1) = some a := by
      cases e : tDg n t (p + 1) with
      | none => rw [e] at hc246; exact absurd rfl hc246
      | some d => exact ⟨d, rfl⟩
    refine ex_s (fun _ => ev_iconst dX7_takeCommand_249 ic1) ?_
    refine ex_s (fun _ => ev_goto (tgt := 254) dX7_takeCommand_250 (by decide)) ?_
    exact ⟨_, _, (by exact pTC_of (hcm.trans (show _ = (some (.inr (.inr (.inl a))), p + 1 + 1) by unfold cDg; rw [e1])) rfl (show nI (pDg n t (p + 1)) = _ by unfold pDg; rw [e1]; rfl) (frL_cs (frL_tr fr_wB fr_wPl) (by decide) _) (fun q hq => by cases hq; exact ⟨rfl, (show oI (tDg n t (p + 1)) = _ by rw [e1]; rfl)⟩)), ev_iret dX7_takeCommand_254 rfl (by decide) rfl rfl⟩
set_option maxRecDepth 4000 in
theorem qX7_takeCommand_drop {G : GX} {w : WS} {n : Nat} {t : Nat → Nat} (hi : inA n t w) {p : Nat} (hp : w.1 106 1 = nI p) (hlt : p < n) (ht : t p = 107) : ∃ o w2, (pTC n t p w o w2) ∧ Big G 5 0 mX7_takeCommand [.ref 106, .ref 102] w o w2 := by
  have hcm : cmdAt n t p = cDg n t (p + 1) (fun a => .inr (.inr (.inr (.inr (.inl a))))) := by
    unfold cmdAt
    rw [if_neg (fun q => q hlt), if_neg (by rw [ht]; decide), if_neg (by rw [ht]; decide), if_neg (by rw [ht]; decide), if_neg (by rw [ht]; decide), if_neg (by rw [ht]; decide), if_pos ht]
  have hi0 : inA n t (wB w (nI 107) p) := inA_fr hi fr_wB (by decide) (by decide)
  refine bx_of (P := pTC n t p w) (by decide +kernel) (Nat.le_of_ble_eq_true rfl) ?_
  show Ex G 5 0 mX7_takeCommand 0 [some (.ref 106), some (.ref 102), none] [] w _
  refine ex_s (fun _ => ev_aload_n dX7_takeCommand_0 rfl) ?_
  refine ex_s (fun _ => ev_getR fX7_12 dX7_takeCommand_1 (by decide) sh106 rfl) ?_
  refine ex_s (fun _ => ev_aload_n dX7_takeCommand_4 rfl) ?_
  refine ex_s (fun _ => ev_getI fX7_18 dX7_takeCommand_5 (by decide) sh106 rfl) ?_
  refine ex_s (fun _ => ev_top hp) ?_
  refine ex_s (fun _ => ev_callV kX7_39 co104 (qX7_sgn hi (Nat.le_of_lt hlt)) dX7_takeCommand_8 rfl (by decide) (by decide) rfl) ?_
  refine ex_s (fun _ => ev_top (y := nI 107) (by unfold sgv; rw [if_pos hlt, ht])) ?_
  refine ex_s (fun _ => ev_ist2 dX7_takeCommand_11 (by decide) rfl) ?_
  refine ex_s (fun _ => ev_aload_n dX7_takeCommand_12 rfl) ?_
  refine ex_s (fun _ => ev_iload_n dX7_takeCommand_13 rfl) ?_
  refine ex_s (fun _ => ev_iconst dX7_takeCommand_14 icm1) ?_
  refine ex_s (fun _ => ev_iconst dX7_takeCommand_15 icm1) ?_
  refine ex_s (fun _ => ev_callV kX7_43 co102 qX2_set dX7_takeCommand_16 rfl (by decide) (by decide) rfl) ?_
  refine ex_s (fun _ => ev_aload_n dX7_takeCommand_19 rfl) ?_
  refine ex_s (fun _ => ev_dup dX7_takeCommand_20 rfl) ?_
  refine ex_s (fun _ => ev_getI fX7_18 dX7_takeCommand_21 (by decide) sh106 rfl) ?_
  refine ex_s (fun _ => ev_top hp) ?_
  refine ex_s (fun _ => ev_iconst dX7_takeCommand_24 ic1) ?_
  refine ex_s (fun _ => ev_iadd dX7_takeCommand_25) ?_
  refine ex_s (fun _ => ev_top (nI_add _ _)) ?_
  refine ex_s (fun _ => ev_put fX7_18 dX7_takeCommand_26 rfl rfl (by decide) sh106 rfl) ?_
  refine ex_s (fun _ => ev_w (w' := wB w (nI 107) p) rfl) ?_
  refine ex_s (fun _ => ev_iload_n dX7_takeCommand_29 rfl) ?_
  refine ex_s (fun _ => ev_tableIn (tgt := 233) (off := 203) dX7_takeCommand_30 (by decide) (by decide) (by decide +kernel) (by decide)) ?_
  refine ex_s (fun _ => ev_aload_n dX7_takeCommand_233 rfl) ?_
  refine ex_s (fun _ => ev_aload_n dX7_takeCommand_234 rfl) ?_
  refine ex_s (fun _ => ev_callV kX7_59 co106 (qX7_takeDigit (w := wB w (nI 107) p) (p := p + 1) hi0 rfl (by omega)) dX7_takeCommand_235 rfl (by decide) (by decide) rfl) ?_
  refine ex_s (fun _ => ev_put fX7_63 dX7_takeCommand_238 rfl rfl (by decide) sh102 rfl) ?_
  refine ex_s (fun _ => ev_aload_n dX7_takeCommand_241 rfl) ?_
  refine ex_s (fun _ => ev_getI fX7_63 dX7_takeCommand_242 (by decide) sh102 rfl) ?_
  refine ex_s (fun _ => ev_iconst dX7_takeCommand_245 icm1) ?_
  refine ex_bp (fun _ => ev_icmp_eq (tgt := 253) dX7_takeCommand_246 (by decide)) (fun hc246 => ?_) (fun hc246 => ?_)
  · have e1 : tDg n t (p + 1) = none := (oI_none (fun k hk => by have := (tDg_lt hk).1; omega)).mp hc246
    refine ex_s (fun _ => ev_iconst dX7_takeCommand_253 ic0) ?_
    exact ⟨_, _, (by exact pTC_of (hcm.trans (show _ = (none, p + 1) by unfold cDg; rw [e1])) rfl (show nI (pDg n t (p + 1)) = _ by unfold pDg; rw [e1]; rfl) (frL_cs (frL_tr fr_wB fr_wPl) (by decide) _) (fun c hc => by cases hc)), ev_iret dX7_takeCommand_254 rfl (by decide) rfl rfl⟩
  · obtain ⟨a, e1⟩ : ∃ a, tDg n t (p + 1) = some a := by
      cases e : tDg n t (p + 1) with
      | none => rw [e] at hc246; exact absurd rfl hc246
      | some d => exact ⟨d, rfl⟩
    refine ex_s (fun _ => ev_iconst dX7_takeCommand_249 ic1) ?_
    refine ex_s (fun _ => ev_goto (tgt := 254) dX7_takeCommand_250 (by decide)) ?_
    exact ⟨_, _, (by exact pTC_of (hcm.trans (show _ = (some (.inr (.inr (.inr (.inr (.inl a))))), p + 1 + 1) by unfold cDg; rw [e1])) rfl (show nI (pDg n t (p + 1)) = _ by unfold pDg; rw [e1]; rfl) (frL_cs (frL_tr fr_wB fr_wPl) (by decide) _) (fun q hq => by cases hq; exact ⟨rfl, (show oI (tDg n t (p + 1)) = _ by rw [e1]; rfl)⟩)), ev_iret dX7_takeCommand_254 rfl (by decide) rfl rfl⟩
set_option maxRecDepth 4000 in
theorem qX7_takeCommand_scare {G : GX} {w : WS} {n : Nat} {t : Nat → Nat} (hi : inA n t w) {p : Nat} (hp : w.1 106 1 = nI p) (hlt : p < n) (ht : t p = 102) : ∃ o w2, (pTC n t p w o w2) ∧ Big G 5 0 mX7_takeCommand [.ref 106, .ref 102] w o w2 := by
  have hcm : cmdAt n t p = cDg n t (p + 1) (fun a => .inr (.inr (.inr (.inr (.inr (.inr a)))))) := by
    unfold cmdAt
    rw [if_neg (fun q => q hlt), if_neg (by rw [ht]; decide), if_neg (by rw [ht]; decide), if_neg (by rw [ht]; decide), if_neg (by rw [ht]; decide), if_neg (by rw [ht]; decide), if_neg (by rw [ht]; decide), if_pos ht]
  have hi0 : inA n t (wB w (nI 102) p) := inA_fr hi fr_wB (by decide) (by decide)
  refine bx_of (P := pTC n t p w) (by decide +kernel) (Nat.le_of_ble_eq_true rfl) ?_
  show Ex G 5 0 mX7_takeCommand 0 [some (.ref 106), some (.ref 102), none] [] w _
  refine ex_s (fun _ => ev_aload_n dX7_takeCommand_0 rfl) ?_
  refine ex_s (fun _ => ev_getR fX7_12 dX7_takeCommand_1 (by decide) sh106 rfl) ?_
  refine ex_s (fun _ => ev_aload_n dX7_takeCommand_4 rfl) ?_
  refine ex_s (fun _ => ev_getI fX7_18 dX7_takeCommand_5 (by decide) sh106 rfl) ?_
  refine ex_s (fun _ => ev_top hp) ?_
  refine ex_s (fun _ => ev_callV kX7_39 co104 (qX7_sgn hi (Nat.le_of_lt hlt)) dX7_takeCommand_8 rfl (by decide) (by decide) rfl) ?_
  refine ex_s (fun _ => ev_top (y := nI 102) (by unfold sgv; rw [if_pos hlt, ht])) ?_
  refine ex_s (fun _ => ev_ist2 dX7_takeCommand_11 (by decide) rfl) ?_
  refine ex_s (fun _ => ev_aload_n dX7_takeCommand_12 rfl) ?_
  refine ex_s (fun _ => ev_iload_n dX7_takeCommand_13 rfl) ?_
  refine ex_s (fun _ => ev_iconst dX7_takeCommand_14 icm1) ?_
  refine ex_s (fun _ => ev_iconst dX7_takeCommand_15 icm1) ?_
  refine ex_s (fun _ => ev_callV kX7_43 co102 qX2_set dX7_takeCommand_16 rfl (by decide) (by decide) rfl) ?_
  refine ex_s (fun _ => ev_aload_n dX7_takeCommand_19 rfl) ?_
  refine ex_s (fun _ => ev_dup dX7_takeCommand_20 rfl) ?_
  refine ex_s (fun _ => ev_getI fX7_18 dX7_takeCommand_21 (by decide) sh106 rfl) ?_
  refine ex_s (fun _ => ev_top hp) ?_
  refine ex_s (fun _ => ev_iconst dX7_takeCommand_24 ic1) ?_
  refine ex_s (fun _ => ev_iadd dX7_takeCommand_25) ?_
  refine ex_s (fun _ => ev_top (nI_add _ _)) ?_
  refine ex_s (fun _ => ev_put fX7_18 dX7_takeCommand_26 rfl rfl (by decide) sh106 rfl) ?_
  refine ex_s (fun _ => ev_w (w' := wB w (nI 102) p) rfl) ?_
  refine ex_s (fun _ => ev_iload_n dX7_takeCommand_29 rfl) ?_
  refine ex_s (fun _ => ev_tableIn (tgt := 233) (off := 203) dX7_takeCommand_30 (by decide) (by decide) (by decide +kernel) (by decide)) ?_
  refine ex_s (fun _ => ev_aload_n dX7_takeCommand_233 rfl) ?_
  refine ex_s (fun _ => ev_aload_n dX7_takeCommand_234 rfl) ?_
  refine ex_s (fun _ => ev_callV kX7_59 co106 (qX7_takeDigit (w := wB w (nI 102) p) (p := p + 1) hi0 rfl (by omega)) dX7_takeCommand_235 rfl (by decide) (by decide) rfl) ?_
  refine ex_s (fun _ => ev_put fX7_63 dX7_takeCommand_238 rfl rfl (by decide) sh102 rfl) ?_
  refine ex_s (fun _ => ev_aload_n dX7_takeCommand_241 rfl) ?_
  refine ex_s (fun _ => ev_getI fX7_63 dX7_takeCommand_242 (by decide) sh102 rfl) ?_
  refine ex_s (fun _ => ev_iconst dX7_takeCommand_245 icm1) ?_
  refine ex_bp (fun _ => ev_icmp_eq (tgt := 253) dX7_takeCommand_246 (by decide)) (fun hc246 => ?_) (fun hc246 => ?_)
  · have e1 : tDg n t (p + 1) = none := (oI_none (fun k hk => by have := (tDg_lt hk).1; omega)).mp hc246
    refine ex_s (fun _ => ev_iconst dX7_takeCommand_253 ic0) ?_
    exact ⟨_, _, (by exact pTC_of (hcm.trans (show _ = (none, p + 1) by unfold cDg; rw [e1])) rfl (show nI (pDg n t (p + 1)) = _ by unfold pDg; rw [e1]; rfl) (frL_cs (frL_tr fr_wB fr_wPl) (by decide) _) (fun c hc => by cases hc)), ev_iret dX7_takeCommand_254 rfl (by decide) rfl rfl⟩
  · obtain ⟨a, e1⟩ : ∃ a, tDg n t (p + 1) = some a := by
      cases e : tDg n t (p + 1) with
      | none => rw [e] at hc246; exact absurd rfl hc246
      | some d => exact ⟨d, rfl⟩
    refine ex_s (fun _ => ev_iconst dX7_takeCommand_249 ic1) ?_
    refine ex_s (fun _ => ev_goto (tgt := 254) dX7_takeCommand_250 (by decide)) ?_
    exact ⟨_, _, (by exact pTC_of (hcm.trans (show _ = (some (.inr (.inr (.inr (.inr (.inr (.inr a)))))), p + 1 + 1) by unfold cDg; rw [e1])) rfl (show nI (pDg n t (p + 1)) = _ by unfold pDg; rw [e1]; rfl) (frL_cs (frL_tr fr_wB fr_wPl) (by decide) _) (fun q hq => by cases hq; exact ⟨rfl, (show oI (tDg n t (p + 1)) = _ by rw [e1]; rfl)⟩)), ev_iret dX7_takeCommand_254 rfl (by decide) rfl rfl⟩
set_option maxRecDepth 4000 in
theorem qX7_takeCommand_o {G : GX} {w : WS} {n : Nat} {t : Nat → Nat} (hi : inA n t w) {p : Nat} (hp : w.1 106 1 = nI p) (hpn : p ≤ n) (hcm : cmdAt n t p = (none, p)) (ho : (sgv n t p).toInt < 100 ∨ 115 < (sgv n t p).toInt) : ∃ o w2, (pTC n t p w o w2) ∧ Big G 5 0 mX7_takeCommand [.ref 106, .ref 102] w o w2 := by
  refine bx_of (P := pTC n t p w) (by decide +kernel) (Nat.le_of_ble_eq_true rfl) ?_
  show Ex G 5 0 mX7_takeCommand 0 [some (.ref 106), some (.ref 102), none] [] w _
  refine ex_s (fun _ => ev_aload_n dX7_takeCommand_0 rfl) ?_
  refine ex_s (fun _ => ev_getR fX7_12 dX7_takeCommand_1 (by decide) sh106 rfl) ?_
  refine ex_s (fun _ => ev_aload_n dX7_takeCommand_4 rfl) ?_
  refine ex_s (fun _ => ev_getI fX7_18 dX7_takeCommand_5 (by decide) sh106 rfl) ?_
  refine ex_s (fun _ => ev_top hp) ?_
  refine ex_s (fun _ => ev_callV kX7_39 co104 (qX7_sgn hi hpn) dX7_takeCommand_8 rfl (by decide) (by decide) rfl) ?_
  refine ex_s (fun _ => ev_ist2 dX7_takeCommand_11 (by decide) rfl) ?_
  refine ex_s (fun _ => ev_aload_n dX7_takeCommand_12 rfl) ?_
  refine ex_s (fun _ => ev_iload_n dX7_takeCommand_13 rfl) ?_
  refine ex_s (fun _ => ev_iconst dX7_takeCommand_14 icm1) ?_
  refine ex_s (fun _ => ev_iconst dX7_takeCommand_15 icm1) ?_
  refine ex_s (fun _ => ev_callV kX7_43 co102 qX2_set dX7_takeCommand_16 rfl (by decide) (by decide) rfl) ?_
  refine ex_s (fun _ => ev_aload_n dX7_takeCommand_19 rfl) ?_
  refine ex_s (fun _ => ev_dup dX7_takeCommand_20 rfl) ?_
  refine ex_s (fun _ => ev_getI fX7_18 dX7_takeCommand_21 (by decide) sh106 rfl) ?_
  refine ex_s (fun _ => ev_top hp) ?_
  refine ex_s (fun _ => ev_iconst dX7_takeCommand_24 ic1) ?_
  refine ex_s (fun _ => ev_iadd dX7_takeCommand_25) ?_
  refine ex_s (fun _ => ev_top (nI_add _ _)) ?_
  refine ex_s (fun _ => ev_put fX7_18 dX7_takeCommand_26 rfl rfl (by decide) sh106 rfl) ?_
  refine ex_s (fun _ => ev_w (w' := wB w (sgv n t p) p) rfl) ?_
  refine ex_s (fun _ => ev_iload_n dX7_takeCommand_29 rfl) ?_
  refine ex_s (fun _ => ev_tableOut (tgt := 255) dX7_takeCommand_30 ho (by decide)) ?_
  refine ex_s (fun _ => ev_aload_n dX7_takeCommand_255 rfl) ?_
  refine ex_s (fun _ => ev_dup dX7_takeCommand_256 rfl) ?_
  refine ex_s (fun _ => ev_getI fX7_18 dX7_takeCommand_257 (by decide) sh106 rfl) ?_
  refine ex_s (fun _ => ev_top (y := nI (p + 1)) rfl) ?_
  refine ex_s (fun _ => ev_iconst dX7_takeCommand_260 ic1) ?_
  refine ex_s (fun _ => ev_isub dX7_takeCommand_261) ?_
  refine ex_s (fun _ => ev_top (pk_sub (Nat.succ_le_succ (Nat.zero_le _)))) ?_
  refine ex_s (fun _ => ev_put fX7_18 dX7_takeCommand_262 rfl rfl (by decide) sh106 rfl) ?_
  refine ex_s (fun _ => ev_iconst dX7_takeCommand_265 ic0) ?_
  exact ⟨_, _, (by exact pTC_of hcm rfl rfl (frL_cs fr_wB (by decide) _) (fun c hc => by cases hc)), ev_iret dX7_takeCommand_266 rfl (by decide) rfl rfl⟩
set_option maxRecDepth 4000 in
theorem qX7_takeCommand_i {G : GX} {w : WS} {n : Nat} {t : Nat → Nat} (hi : inA n t w) {p : Nat} (hp : w.1 106 1 = nI p) (hpn : p ≤ n) (hcm : cmdAt n t p = (none, p)) (h1 : ¬ (sgv n t p).toInt < 100) (h2 : ¬ 115 < (sgv n t p).toInt) (ho : (#[172, 225, 203, 225, 225, 225, 225, 203, 225, 203, 225, 225, 78, 225, 124, 101] : Array Int)[((sgv n t p).toInt - 100).toNat]? = some 225) : ∃ o w2, (pTC n t p w o w2) ∧ Big G 5 0 mX7_takeCommand [.ref 106, .ref 102] w o w2 := by
  refine bx_of (P := pTC n t p w) (by decide +kernel) (Nat.le_of_ble_eq_true rfl) ?_
  show Ex G 5 0 mX7_takeCommand 0 [some (.ref 106), some (.ref 102), none] [] w _
  refine ex_s (fun _ => ev_aload_n dX7_takeCommand_0 rfl) ?_
  refine ex_s (fun _ => ev_getR fX7_12 dX7_takeCommand_1 (by decide) sh106 rfl) ?_
  refine ex_s (fun _ => ev_aload_n dX7_takeCommand_4 rfl) ?_
  refine ex_s (fun _ => ev_getI fX7_18 dX7_takeCommand_5 (by decide) sh106 rfl) ?_
  refine ex_s (fun _ => ev_top hp) ?_
  refine ex_s (fun _ => ev_callV kX7_39 co104 (qX7_sgn hi hpn) dX7_takeCommand_8 rfl (by decide) (by decide) rfl) ?_
  refine ex_s (fun _ => ev_ist2 dX7_takeCommand_11 (by decide) rfl) ?_
  refine ex_s (fun _ => ev_aload_n dX7_takeCommand_12 rfl) ?_
  refine ex_s (fun _ => ev_iload_n dX7_takeCommand_13 rfl) ?_
  refine ex_s (fun _ => ev_iconst dX7_takeCommand_14 icm1) ?_
  refine ex_s (fun _ => ev_iconst dX7_takeCommand_15 icm1) ?_
  refine ex_s (fun _ => ev_callV kX7_43 co102 qX2_set dX7_takeCommand_16 rfl (by decide) (by decide) rfl) ?_
  refine ex_s (fun _ => ev_aload_n dX7_takeCommand_19 rfl) ?_
  refine ex_s (fun _ => ev_dup dX7_takeCommand_20 rfl) ?_
  refine ex_s (fun _ => ev_getI fX7_18 dX7_takeCommand_21 (by decide) sh106 rfl) ?_
  refine ex_s (fun _ => ev_top hp) ?_
  refine ex_s (fun _ => ev_iconst dX7_takeCommand_24 ic1) ?_
  refine ex_s (fun _ => ev_iadd dX7_takeCommand_25) ?_
  refine ex_s (fun _ => ev_top (nI_add _ _)) ?_
  refine ex_s (fun _ => ev_put fX7_18 dX7_takeCommand_26 rfl rfl (by decide) sh106 rfl) ?_
  refine ex_s (fun _ => ev_w (w' := wB w (sgv n t p) p) rfl) ?_
  refine ex_s (fun _ => ev_iload_n dX7_takeCommand_29 rfl) ?_
  refine ex_s (fun _ => ev_tableIn (tgt := 255) (off := 225) dX7_takeCommand_30 h1 h2 ho (by decide)) ?_
  refine ex_s (fun _ => ev_aload_n dX7_takeCommand_255 rfl) ?_
  refine ex_s (fun _ => ev_dup dX7_takeCommand_256 rfl) ?_
  refine ex_s (fun _ => ev_getI fX7_18 dX7_takeCommand_257 (by decide) sh106 rfl) ?_
  refine ex_s (fun _ => ev_top (y := nI (p + 1)) rfl) ?_
  refine ex_s (fun _ => ev_iconst dX7_takeCommand_260 ic1) ?_
  refine ex_s (fun _ => ev_isub dX7_takeCommand_261) ?_
  refine ex_s (fun _ => ev_top (pk_sub (Nat.succ_le_succ (Nat.zero_le _)))) ?_
  refine ex_s (fun _ => ev_put fX7_18 dX7_takeCommand_262 rfl rfl (by decide) sh106 rfl) ?_
  refine ex_s (fun _ => ev_iconst dX7_takeCommand_265 ic0) ?_
  exact ⟨_, _, (by exact pTC_of hcm rfl rfl (frL_cs fr_wB (by decide) _) (fun c hc => by cases hc)), ev_iret dX7_takeCommand_266 rfl (by decide) rfl rfl⟩
theorem tab_of0 : ∀ c : Fin 16, (c.val = 0 ∨ c.val = 2 ∨ c.val = 7 ∨ c.val = 9 ∨ c.val = 12 ∨ c.val = 14 ∨ c.val = 15) ∨ (#[172, 225, 203, 225, 225, 225, 225, 203, 225, 203, 225, 225, 78, 225, 124, 101] : Array Int)[c.val]? = some 225 := by decide
theorem tab_off (c : Nat) (h : c < 16) (h0 : c ≠ 0) (h2 : c ≠ 2) (h7 : c ≠ 7) (h9 : c ≠ 9) (h12 : c ≠ 12) (h14 : c ≠ 14) (h15 : c ≠ 15) : (#[172, 225, 203, 225, 225, 225, 225, 203, 225, 203, 225, 225, 78, 225, 124, 101] : Array Int)[c]? = some 225 := (tab_of0 ⟨c, h⟩).resolve_left (by show ¬ (c = 0 ∨ c = 2 ∨ c = 7 ∨ c = 9 ∨ c = 12 ∨ c = 14 ∨ c = 15); omega)
theorem qX7_takeCommand {G : GX} {w : WS} {n : Nat} {t : Nat → Nat} (hi : inA n t w) {p : Nat} (hp : w.1 106 1 = nI p) (hpn : p ≤ n) : ∃ o w2, pTC n t p w o w2 ∧ Big G 5 0 mX7_takeCommand [.ref 106, .ref 102] w o w2 := by
  by_cases hlt : p < n
  · by_cases h1 : t p = 112
    · exact qX7_takeCommand_paint hi hp hlt h1
    by_cases h2 : t p = 115
    · exact qX7_takeCommand_shave hi hp hlt h2
    by_cases h3 : t p = 114
    · exact qX7_takeCommand_river hi hp hlt h3
    by_cases h4 : t p = 100
    · exact qX7_takeCommand_dragon hi hp hlt h4
    by_cases h5 : t p = 109
    · exact qX7_takeCommand_scale hi hp hlt h5
    by_cases h6 : t p = 107
    · exact qX7_takeCommand_drop hi hp hlt h6
    by_cases h7 : t p = 102
    · exact qX7_takeCommand_scare hi hp hlt h7
    have hcm : cmdAt n t p = (none, p) := by
      unfold cmdAt
      rw [if_neg (fun q => q hlt), if_neg h1, if_neg h2, if_neg h3, if_neg h4, if_neg h5, if_neg h6, if_neg h7]
    have hb := (hi.2.2 p hlt).2
    have e : (sgv n t p).toInt = (t p : Int) := by
      unfold sgv
      rw [if_pos hlt, nI_toInt (by omega)]
    by_cases h8 : (sgv n t p).toInt < 100 ∨ 115 < (sgv n t p).toInt
    · exact qX7_takeCommand_o hi hp hpn hcm h8
    · refine qX7_takeCommand_i hi hp hpn hcm (fun q => h8 (Or.inl q)) (fun q => h8 (Or.inr q)) ?_
      rw [e] at h8 ⊢
      rw [show ((t p : Int) - 100).toNat = t p - 100 by omega]
      exact tab_off (t p - 100) (by omega) (by omega) (by omega) (by omega) (by omega) (by omega) (by omega) (by omega)
  · refine qX7_takeCommand_o hi hp hpn (by unfold cmdAt; rw [if_pos hlt]) (Or.inl ?_)
    unfold sgv
    rw [if_neg hlt]
    decide
/-- the error in a text: none, or its place -/
def fErr (n : Nat) (t : Nat → Nat) : Nat → Nat → Option Nat
  | 0, p => some p
  | f + 1, p => match cmdAt n t p with
    | (none, q) => some q
    | (some _, q) => if q = n then none else if tSg n t q 59 = true then fErr n t f (q + 1) else some q
/-- the commands of a text -/
def cms (n : Nat) (t : Nat → Nat) : Nat → Nat → List Cmd
  | 0, _ => []
  | f + 1, p => match cmdAt n t p with
    | (none, _) => []
    | (some c, q) => if q = n then [c] else c :: cms n t f (q + 1)
def pFE (n : Nat) (t : Nat → Nat) (w : WS) : OT → WS → Prop := fun o w2 => o = .inl (some (.int (oI (fErr n t 60 0)))) ∧ frL [102, 103, 106] w w2
set_option maxRecDepth 4000 in
theorem qX7_firstError {G : GX} {w : WS} {n : Nat} {t : Nat → Nat} (hi : inA n t w) : ∃ o w2, (pFE n t w o w2) ∧ Big G 6 0 mX7_firstError [.ref 106, .ref 102] w o w2 := by
  refine bx_of (P := pFE n t w) (by decide +kernel) (Nat.le_of_ble_eq_true rfl) ?_
  show Ex G 6 0 mX7_firstError 0 [some (.ref 106), some (.ref 102), none] [] w _
  refine ex_s (fun _ => ev_aload_n dX7_firstError_0 rfl) ?_
  refine ex_s (fun _ => ev_callV kX7_22 co106 qX7_rewind dX7_firstError_1 rfl (by decide) (by decide) rfl) ?_
  refine ex_s (fun _ => ev_iconst dX7_firstError_4 ic0) ?_
  refine ex_s (fun _ => ev_ist2 dX7_firstError_5 (by decide) rfl) ?_
  have lp : ∀ (n9 s : Nat) (x : WS) (p : Nat), s + n9 = 60 → fErr n t 60 0 = fErr n t n9 p → x.1 106 1 = nI p → frL [102, 103, 106] w x → p ≤ n → Ex G 6 0 mX7_firstError 6 [some (.ref 106), some (.ref 102), some (.int (nI s))] [] x (pFE n t w) := by
    intro n9
    induction n9 with
    | zero =>
      intro s x p hi9 hE hx hf hpn
      refine ex_s (fun _ => ev_iload_n dX7_firstError_6 rfl) ?_
      refine ex_s (fun _ => ev_bipush (v := nI 60) dX7_firstError_7 (by decide)) ?_
      refine ex_s (fun _ => ev_icmp_ge_t (tgt := 61) dX7_firstError_9 (by decide) (nI_le (by omega) (by omega))) ?_
      refine ex_s (fun _ => ev_aload_n dX7_firstError_61 rfl) ?_
      refine ex_s (fun _ => ev_getI fX7_18 dX7_firstError_62 (by decide) sh106 rfl) ?_
      refine ex_s (fun _ => ev_top hx) ?_
      exact ⟨_, _, (by exact ⟨by rw [hE]; rfl, hf⟩), ev_iret dX7_firstError_65 rfl rfl rfl rfl⟩
    | succ n9 ih =>
      intro s x p hi9 hE hx hf hpn
      refine ex_s (fun _ => ev_iload_n dX7_firstError_6 rfl) ?_
      refine ex_s (fun _ => ev_bipush (v := nI 60) dX7_firstError_7 (by decide)) ?_
      refine ex_s (fun _ => ev_icmp_ge_f (tgt := 61) dX7_firstError_9 (by decide) (nI_ge (by omega) (by decide))) ?_
      refine ex_s (fun _ => ev_aload_n dX7_firstError_12 rfl) ?_
      refine ex_s (fun _ => ev_aload_n dX7_firstError_13 rfl) ?_
      have hix : inA n t x := inA_fr hi hf (by decide) (by decide)
      obtain ⟨_, w3, ⟨rfl, g1, g2, g3⟩, hB3⟩ := qX7_takeCommand (G := G) hix hx hpn
      obtain ⟨y, q, e1⟩ : ∃ y q, cmdAt n t p = (y, q) := ⟨_, _, rfl⟩
      rw [e1] at g1 hB3
      obtain ⟨b1, b2, b3⟩ := cmdAt_ok e1 hpn
      replace hB3 : Big G 5 0 mX7_takeCommand [.ref 106, .ref 102] x (.inl (some (.int (bI y.isSome)))) w3 := hB3
      replace g1 : w3.1 106 1 = nI q := g1
      have f3 := frL_tr hf g2
      have hi3 : inA n t w3 := inA_fr hi f3 (by decide) (by decide)
      refine ex_s (fun _ => ev_callV kX7_25 co106 hB3 dX7_firstError_14 rfl (by decide) (by decide) rfl) ?_
      refine ex_b1 (fun _ => ev_ifb_ne (tgt := 25) dX7_firstError_17 (by decide)) (fun hc17 => ?_) (fun hc17 => ?_)
      · obtain ⟨c, rfl⟩ := Option.isSome_iff_exists.mp hc17
        refine ex_s (fun _ => ev_aload_n dX7_firstError_25 rfl) ?_
        refine ex_s (fun _ => ev_getI fX7_18 dX7_firstError_26 (by decide) sh106 rfl) ?_
        refine ex_s (fun _ => ev_top g1) ?_
        refine ex_s (fun _ => ev_aload_n dX7_firstError_29 rfl) ?_
        refine ex_s (fun _ => ev_getR fX7_12 dX7_firstError_30 (by decide) sh106 rfl) ?_
        refine ex_s (fun _ => ev_getI fX7_29 dX7_firstError_33 (by decide) sh104 rfl) ?_
        refine ex_s (fun _ => ev_top hi3.1) ?_
        refine ex_bn (fun _ => ev_icmp_ne (tgt := 41) dX7_firstError_36 (by decide)) (fun hc36 => ?_) (fun hc36 => ?_)
        · have e36 : ¬ q = n := fun q => hc36 (by rw [q])
          refine ex_s (fun _ => ev_aload_n dX7_firstError_41 rfl) ?_
          refine ex_s (fun _ => ev_bipush (v := nI 59) dX7_firstError_42 (by decide)) ?_
          refine ex_s (fun _ => ev_callV kX7_32 co106 (qX7_takeSign hi3 g1 b2 (by decide)) dX7_firstError_44 rfl (by decide) (by decide) rfl) ?_
          refine ex_b1 (fun _ => ev_ifb_ne (tgt := 55) dX7_firstError_47 (by decide)) (fun hc47 => ?_) (fun hc47 => ?_)
          · rw [pSg_t hc47]
            refine ex_s (fun _ => ev_iinc2 dX7_firstError_55 (nI_inc _) (by decide) rfl) ?_
            refine ex_s (fun _ => ev_goto (tgt := 6) dX7_firstError_58 (by decide)) ?_
            exact ih (s + 1) _ (q + 1) (by omega) (by rw [hE, fErr, e1]; simp only [if_neg e36, hc47]; rfl) rfl (frL_tr f3 fr_wPl) (tSg_lt hc47)
          · rw [pSg_f hc47]
            refine ex_s (fun _ => ev_aload_n dX7_firstError_50 rfl) ?_
            refine ex_s (fun _ => ev_getI fX7_18 dX7_firstError_51 (by decide) sh106 rfl) ?_
            refine ex_s (fun _ => ev_top (y := nI q) rfl) ?_
            exact ⟨_, _, (by exact ⟨by rw [hE, fErr, e1]; simp only [if_neg e36, hc47]; rfl, frL_tr f3 fr_wPl⟩), ev_iret dX7_firstError_54 rfl rfl rfl rfl⟩
        · have e36 : q = n := nI_inj (by have := hi.2.1; omega) (by have := hi.2.1; omega) hc36
          refine ex_s (fun _ => ev_iconst dX7_firstError_39 icm1) ?_
          exact ⟨_, _, (by exact ⟨by rw [hE, fErr, e1]; simp only [if_pos e36]; rfl, f3⟩), ev_iret dX7_firstError_40 rfl rfl rfl rfl⟩
      · obtain rfl : y = none := by
          cases y with
          | none => rfl
          | some y => cases hc17
        refine ex_s (fun _ => ev_aload_n dX7_firstError_20 rfl) ?_
        refine ex_s (fun _ => ev_getI fX7_18 dX7_firstError_21 (by decide) sh106 rfl) ?_
        refine ex_s (fun _ => ev_top g1) ?_
        exact ⟨_, _, (by exact ⟨by rw [hE, fErr, e1]; rfl, f3⟩), ev_iret dX7_firstError_24 rfl rfl rfl rfl⟩
  exact lp 60 0 _ 0 rfl rfl rfl fr_wPl (Nat.zero_le _)
def pOS (n : Nat) (t : Nat → Nat) (w : WS) : OT → WS → Prop := fun o w2 => o = .inl (some (.int (bI (decide (0 < stN n t 12 0 ∧ stN n t 12 0 = n))))) ∧ frL [102, 103, 106] w w2 ∧ (w2.1 102 0 = w.1 102 0 ∧ w2.1 102 1 = w.1 102 1 ∧ w2.1 102 2 = w.1 102 2) ∧ cs2_ w2 (stN n t 12 0) (stD n t 0)
set_option maxRecDepth 4000 in
theorem qX7_isOnlySteps {G : GX} {w : WS} {n : Nat} {t : Nat → Nat} (hi : inA n t w) : ∃ o w2, (pOS n t w o w2) ∧ Big G 6 0 mX7_isOnlySteps [.ref 106, .ref 102] w o w2 := by
  refine bx_of (P := pOS n t w) (by decide +kernel) (Nat.le_of_ble_eq_true rfl) ?_
  show Ex G 6 0 mX7_isOnlySteps 0 [some (.ref 106), some (.ref 102)] [] w _
  refine ex_s (fun _ => ev_aload_n dX7_isOnlySteps_0 rfl) ?_
  refine ex_s (fun _ => ev_callV kX7_22 co106 qX7_rewind dX7_isOnlySteps_1 rfl (by decide) (by decide) rfl) ?_
  refine ex_s (fun _ => ev_aload_n dX7_isOnlySteps_4 rfl) ?_
  refine ex_s (fun _ => ev_aload_n dX7_isOnlySteps_5 rfl) ?_
  have hi0 : inA n t (wPl w 0) := inA_fr hi fr_wPl (by decide) (by decide)
  obtain ⟨_, w4, ⟨rfl, k1, k2, k3, k4, k5⟩, hB4⟩ := qX7_takeSteps (G := G) hi0 (p := 0) rfl (Nat.zero_le _)
  rw [Nat.zero_add] at k1
  have hL := stN_le (n := n) (t := t) (f := 12) (p := 0) (Nat.zero_le _)
  have hi4 : inA n t w4 := inA_fr hi0 k2 (by decide) (by decide)
  refine ex_s (fun _ => ev_callV kX7_36 co106 hB4 dX7_isOnlySteps_6 rfl (by decide) (by decide) rfl) ?_
  refine ex_b0 (fun _ => ev_ifb_eq (tgt := 30) dX7_isOnlySteps_9 (by decide)) (fun hc9 => ?_) (fun hc9 => ?_)
  · refine ex_s (fun _ => ev_iconst dX7_isOnlySteps_30 ic0) ?_
    exact ⟨_, _, (by exact ⟨by rw [decide_eq_false (fun q => (of_decide_eq_false hc9) q.1)]; rfl, frL_tr fr_wPl k2, k3, hL.1, k4, fun k hk => ⟨k5 k hk, (stD_at hk).2⟩⟩), ev_iret dX7_isOnlySteps_31 rfl (by decide) rfl rfl⟩
  · refine ex_s (fun _ => ev_aload_n dX7_isOnlySteps_12 rfl) ?_
    refine ex_s (fun _ => ev_getI fX7_18 dX7_isOnlySteps_13 (by decide) sh106 rfl) ?_
    refine ex_s (fun _ => ev_top k1) ?_
    refine ex_s (fun _ => ev_aload_n dX7_isOnlySteps_16 rfl) ?_
    refine ex_s (fun _ => ev_getR fX7_12 dX7_isOnlySteps_17 (by decide) sh106 rfl) ?_
    refine ex_s (fun _ => ev_getI fX7_29 dX7_isOnlySteps_20 (by decide) sh104 rfl) ?_
    refine ex_s (fun _ => ev_top hi4.1) ?_
    refine ex_bn (fun _ => ev_icmp_ne (tgt := 30) dX7_isOnlySteps_23 (by decide)) (fun hc23 => ?_) (fun hc23 => ?_)
    · refine ex_s (fun _ => ev_iconst dX7_isOnlySteps_30 ic0) ?_
      exact ⟨_, _, (by exact ⟨by rw [decide_eq_false (fun q => hc23 (by rw [q.2]))]; rfl, frL_tr fr_wPl k2, k3, hL.1, k4, fun k hk => ⟨k5 k hk, (stD_at hk).2⟩⟩), ev_iret dX7_isOnlySteps_31 rfl (by decide) rfl rfl⟩
    · refine ex_s (fun _ => ev_iconst dX7_isOnlySteps_26 ic1) ?_
      refine ex_s (fun _ => ev_goto (tgt := 31) dX7_isOnlySteps_27 (by decide)) ?_
      exact ⟨_, _, (by exact ⟨by rw [decide_eq_true ⟨of_decide_eq_true hc9, nI_inj (by omega) (by have := hi.2.1; omega) hc23⟩]; rfl, frL_tr fr_wPl k2, k3, hL.1, k4, fun k hk => ⟨k5 k hk, (stD_at hk).2⟩⟩), ev_iret dX7_isOnlySteps_31 rfl (by decide) rfl rfl⟩
