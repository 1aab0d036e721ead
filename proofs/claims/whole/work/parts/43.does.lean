/-! the reference: changes -/
def wRf (w : WS) (k : Nat) (a b c d : Int32) : WS := cs_ (cs_ w 115 (upd (upd (w.1 115) 6 (nI k)) 8 (nI 1))) 120 (upd (upd (upd (upd (upd (upd (w.1 120) 0 a) 1 b) 2 c) 3 d) 4 (nI 0)) 5 (nI 0))
def rsn (K : List (Int32 × Int32)) (f : Nat → Int32) : Prop := K.length ≤ 3 ∧ (∀ i x, K[i]? = some x → f (2 * i) = x.1 ∧ f (2 * i + 1) = x.2 ∧ x.1 ≠ 0) ∧ ∀ i, i < 3 → K.length ≤ i → f (2 * i) = nI 0
theorem rsn_1 {f : Nat → Int32} {a b d : Int32} (ha : a ≠ 0) : rsn [(a, b)] (upd (upd (upd (upd (upd (upd f 0 a) 1 b) 2 (nI 0)) 3 d) 4 (nI 0)) 5 (nI 0)) := by
  refine ⟨(by decide : 1 ≤ 3), fun i x hx => ?_, fun i hi hl => ?_⟩
  · cases i with
    | zero => cases hx; exact ⟨rfl, rfl, ha⟩
    | succ i => simp at hx
  · have hl : 1 ≤ i := hl
    obtain rfl | rfl : i = 1 ∨ i = 2 := by omega
    · rfl
    · rfl
theorem rsn_2 {f : Nat → Int32} {a b c d : Int32} (ha : a ≠ 0) (hc : c ≠ 0) : rsn [(a, b), (c, d)] (upd (upd (upd (upd (upd (upd f 0 a) 1 b) 2 c) 3 d) 4 (nI 0)) 5 (nI 0)) := by
  refine ⟨(by decide : 2 ≤ 3), fun i x hx => ?_, fun i hi hl => ?_⟩
  · match i, hx with
    | 0, hx => cases hx; exact ⟨rfl, rfl, ha⟩
    | 1, hx => cases hx; exact ⟨rfl, rfl, hc⟩
    | i + 2, hx => simp at hx
  · have hl : 2 ≤ i := hl
    obtain rfl : i = 2 := by omega
    rfl
/-- a command asked of the reference: refused by the exception e, or done -/
def pDo (S : ST) (q : Cmd) (e : Nat) (w : WS) : OT → WS → Prop := fun o w2 => (∃ v, o = .inl (some (.int v)) ∧ (grC S q = 0 → v = crt S q)) ∧ (grC S q ≠ 0 → mR S w2 ∧ w2.1 115 = upd (upd (w.1 115) 6 (nI e)) 8 (nI 1) ∧ rsn (kpC S q) (w2.1 120) ∧ frG [(115, 116), (120, 120)] w w2) ∧ (grC S q = 0 → mR (cdo S q) w2 ∧ frG [(116, 116)] w w2)
theorem pDo_n1 {S : ST} {q : Cmd} {e g : Nat} {w w1 : WS} {b : Int32} (hm : mR S w1) (hf : frG [(116, 116)] w w1) (hg : grC S q = g) (h0 : g ≠ 0) (h2 : g ≠ 2) (h9 : g < 10) (hb : b = dtC S q g) {v : Int32} : pDo S q e w (.inl (some (.int v))) (wRf w1 e (nI g) b (nI 0) (nI 0)) := by
  have hg0 : grC S q ≠ 0 := by rw [hg]; exact h0
  refine ⟨⟨v, rfl, fun z => absurd z hg0⟩, fun _ => ⟨mRe hm rfl, ?_, ?_, ?_⟩, fun z => absurd z hg0⟩
  · show upd (upd (w1.1 115) 6 (nI e)) 8 (nI 1) = _
    rw [frG_at hf (by decide)]
  · unfold kpC
    rw [hg, if_neg h2, hb]
    exact rsn_1 (fun z => h0 (nI_inj (by omega) (by decide) z))
  · exact frG_cs (frG_cs (frG_mo hf (by decide)) (by decide) _) (by decide) _
theorem pDo_y {S : ST} {q : Cmd} {e : Nat} {w w2 : WS} {v : Int32} (hg : grC S q = 0) (hm : mR (cdo S q) w2) (hf : frG [(116, 116)] w w2) (hv : v = crt S q) : pDo S q e w (.inl (some (.int v))) w2 := ⟨⟨v, rfl, fun _ => hv⟩, fun z => absurd hg z, fun _ => ⟨hm, hf⟩⟩
theorem r5_le {v : Int32} (h : r5 v) : -1 ≤ v ∧ v ≤ nI 3 := by
  rcases h with rfl | ⟨k, hk, rfl⟩
  · decide
  · exact ⟨Int32.le_trans (by decide : (-1 : Int32) ≤ nI 0) (nI_le (Nat.zero_le _) (by omega)), nI_le (by omega) (by decide)⟩
set_option maxRecDepth 4000 in
theorem qX12_fails {G : GX} {w : WS} {k : Nat} : Big G 1 0 mX12_fails [.ref 115, .int (nI k)] w (.inl (some (.int (nI 0)))) (wT w k) := by
  refine big_of (by decide +kernel) (Nat.le_of_ble_eq_true rfl) ?_
  show Ev G 1 0 mX12_fails 0 [some (.ref 115), some (.int (nI k))] [] w _
  refine ev_aload_n dX12_fails_0 rfl ?_
  refine ev_iload_n dX12_fails_1 rfl ?_
  refine ev_put fX12_43 dX12_fails_2 rfl rfl (by decide) sh115 rfl ?_
  refine ev_iconst dX12_fails_5 ic0 ?_
  exact ev_iret dX12_fails_6 rfl rfl rfl rfl
set_option maxRecDepth 4000 in
theorem qX12_refuseFor {G : GX} {w : WS} {k : Nat} {a b c d : Int32} : Big G 1 0 mX12_refuseFor [.ref 115, .int (nI k), .int a, .int b, .int c, .int d] w (.inl (some (.int (nI 0)))) (wRf w k a b c d) := by
  refine big_of (by decide +kernel) (Nat.le_of_ble_eq_true rfl) ?_
  show Ev G 1 0 mX12_refuseFor 0 [some (.ref 115), some (.int (nI k)), some (.int a), some (.int b), some (.int c), some (.int d)] [] w _
  refine ev_aload_n dX12_refuseFor_0 rfl ?_
  refine ev_iload_n dX12_refuseFor_1 rfl ?_
  refine ev_put fX12_43 dX12_refuseFor_2 rfl rfl (by decide) sh115 rfl ?_
  refine ev_aload_n dX12_refuseFor_5 rfl ?_
  refine ev_iconst dX12_refuseFor_6 ic1 ?_
  refine ev_put fX12_59 dX12_refuseFor_7 rfl rfl (by decide) sh115 rfl ?_
  refine ev_aload_n dX12_refuseFor_10 rfl ?_
  refine ev_getR fX12_22 dX12_refuseFor_11 (by decide) sh115 rfl ?_
  refine ev_iconst dX12_refuseFor_14 ic0 ?_
  refine ev_iload_n dX12_refuseFor_15 rfl ?_
  refine ev_iastore dX12_refuseFor_16 rfl (by omega) rfl (by decide) sh120 ?_
  refine ev_aload_n dX12_refuseFor_17 rfl ?_
  refine ev_getR fX12_22 dX12_refuseFor_18 (by decide) sh115 rfl ?_
  refine ev_iconst dX12_refuseFor_21 ic1 ?_
  refine ev_iload_n dX12_refuseFor_22 rfl ?_
  refine ev_iastore dX12_refuseFor_23 rfl (by omega) rfl (by decide) sh120 ?_
  refine ev_aload_n dX12_refuseFor_24 rfl ?_
  refine ev_getR fX12_22 dX12_refuseFor_25 (by decide) sh115 rfl ?_
  refine ev_iconst dX12_refuseFor_28 ic2 ?_
  refine ev_iload dX12_refuseFor_29 rfl ?_
  refine ev_iastore dX12_refuseFor_31 rfl (by omega) rfl (by decide) sh120 ?_
  refine ev_aload_n dX12_refuseFor_32 rfl ?_
  refine ev_getR fX12_22 dX12_refuseFor_33 (by decide) sh115 rfl ?_
  refine ev_iconst dX12_refuseFor_36 ic3 ?_
  refine ev_iload dX12_refuseFor_37 rfl ?_
  refine ev_iastore dX12_refuseFor_39 rfl (by omega) rfl (by decide) sh120 ?_
  refine ev_aload_n dX12_refuseFor_40 rfl ?_
  refine ev_getR fX12_22 dX12_refuseFor_41 (by decide) sh115 rfl ?_
  refine ev_iconst dX12_refuseFor_44 ic4 ?_
  refine ev_iconst dX12_refuseFor_45 ic0 ?_
  refine ev_iastore dX12_refuseFor_46 rfl (by omega) rfl (by decide) sh120 ?_
  refine ev_aload_n dX12_refuseFor_47 rfl ?_
  refine ev_getR fX12_22 dX12_refuseFor_48 (by decide) sh115 rfl ?_
  refine ev_iconst dX12_refuseFor_51 ic5 ?_
  refine ev_iconst dX12_refuseFor_52 ic0 ?_
  refine ev_iastore dX12_refuseFor_53 rfl (by omega) rfl (by decide) sh120 ?_
  refine ev_iconst dX12_refuseFor_54 ic0 ?_
  exact ev_iret dX12_refuseFor_55 rfl rfl rfl (by simp only [wRf, cs_cs, cs_same]; first | done | rfl)
set_option maxRecDepth 4000 in
theorem qX12_refuse {G : GX} {w : WS} {k : Nat} {a b : Int32} : Big G 2 0 mX12_refuse [.ref 115, .int (nI k), .int a, .int b] w (.inl (some (.int (nI 0)))) (wRf w k a b (nI 0) (nI 0)) := by
  refine big_of (by decide +kernel) (Nat.le_of_ble_eq_true rfl) ?_
  show Ev G 2 0 mX12_refuse 0 [some (.ref 115), some (.int (nI k)), some (.int a), some (.int b)] [] w _
  refine ev_aload_n dX12_refuse_0 rfl ?_
  refine ev_iload_n dX12_refuse_1 rfl ?_
  refine ev_iload_n dX12_refuse_2 rfl ?_
  refine ev_iload_n dX12_refuse_3 rfl ?_
  refine ev_iconst dX12_refuse_4 ic0 ?_
  refine ev_iconst dX12_refuse_5 ic0 ?_
  refine ev_callV kX12_55 co115 qX12_refuseFor dX12_refuse_6 rfl (by decide) (by decide) rfl ?_
  exact ev_iret dX12_refuse_9 rfl rfl rfl rfl
set_option maxRecDepth 4000 in
theorem qX12_takes {G : GX} {w : WS} {S : ST} (hS : mR S w) {i : Nat} (hi : i < nD S) : Big G 1 0 mX12_takes [.ref 115, .int (nI i)] w (.inl none) (cs_ w 116 (upd (va_cpy (w.1 116) (w.1 116) (143 + 3 * i + 3) (143 + 3 * i) (3 * (nD S - 1 - i))) 1 (nI (nD S - 1)))) := by
  refine big_of (by decide +kernel) (Nat.le_of_ble_eq_true rfl) ?_
  have hS0 := hS
  obtain ⟨⟨q0, q1, ⟨m0, m1, m2, m3, m4⟩, qr, qc, qv, qd⟩, hk1, hk2, hk3, hk4⟩ := hS
  have h4 := hk2.1
  have h5 := hk3.1
  show Ev G 1 0 mX12_takes 0 [some (.ref 115), some (.int (nI i)), none, none] [] w _
  refine ev_aload_n dX12_takes_0 rfl ?_
  refine ev_getR fX12_9 dX12_takes_1 (by decide) sh115 rfl ?_
  refine ev_iconst dX12_takes_4 ic1 ?_
  refine ev_iaload dX12_takes_5 rfl (by omega) (by decide) sh116 ?_
  refine ev_top q1 ?_
  refine ev_iconst dX12_takes_6 ic1 ?_
  refine ev_isub dX12_takes_7 ?_
  first | refine ev_top (pk_sub (by omega)) ?_ | skip
  refine ev_ist2 dX12_takes_8 (by decide) rfl ?_
  refine ev_sipush (v := nI 143) dX12_takes_9 (by decide) ?_
  refine ev_iconst dX12_takes_12 ic3 ?_
  refine ev_iload_n dX12_takes_13 rfl ?_
  refine ev_imul dX12_takes_14 ?_
  first | refine ev_top (pk_mul _ _) ?_ | skip
  refine ev_iadd dX12_takes_15 ?_
  first | refine ev_top (nI_add _ _) ?_ | skip
  refine ev_ist3 dX12_takes_16 (by decide) rfl ?_
  refine ev_aload_n dX12_takes_17 rfl ?_
  refine ev_getR fX12_9 dX12_takes_18 (by decide) sh115 rfl ?_
  refine ev_iload_n dX12_takes_21 rfl ?_
  refine ev_iconst dX12_takes_22 ic3 ?_
  refine ev_iadd dX12_takes_23 ?_
  first | refine ev_top (nI_add _ _) ?_ | skip
  refine ev_aload_n dX12_takes_24 rfl ?_
  refine ev_getR fX12_9 dX12_takes_25 (by decide) sh115 rfl ?_
  refine ev_iload_n dX12_takes_28 rfl ?_
  refine ev_iconst dX12_takes_29 ic3 ?_
  refine ev_iload_n dX12_takes_30 rfl ?_
  refine ev_iload_n dX12_takes_31 rfl ?_
  refine ev_isub dX12_takes_32 ?_
  first | refine ev_top (pk_sub (by omega)) ?_ | skip
  refine ev_imul dX12_takes_33 ?_
  first | refine ev_top (pk_mul _ _) ?_ | skip
  refine ev_copy aX12_46 dX12_takes_34 rfl rfl rfl (by decide) (by decide) sh116 sh116 (by omega) (by omega) rfl ?_
  refine ev_aload_n dX12_takes_37 rfl ?_
  refine ev_getR fX12_9 dX12_takes_38 (by decide) sh115 rfl ?_
  refine ev_iconst dX12_takes_41 ic1 ?_
  refine ev_iload_n dX12_takes_42 rfl ?_
  refine ev_iastore dX12_takes_43 rfl (by omega) rfl (by decide) sh116 ?_
  exact ev_vret dX12_takes_44 rfl rfl (by rw [cs_cs, cs_same])
set_option maxRecDepth 4000 in
theorem qX12_gives_n {G : GX} {w : WS} {S : ST} (hS : mR S w) {c : Nat} (hc : c < 64) {v : Int32} (hv : r5 v) (hd : dOn S c = none) : ∃ w2, Big G 3 0 mX12_gives [.ref 115, .int (nI c), .int v] w (.inl none) w2 ∧ mR (sGv S c v) w2 ∧ frG [(116, 116)] w w2 := by
  have hS0 := hS
  obtain ⟨⟨q0, q1, ⟨m0, m1, m2, m3, m4⟩, qr, qc, qv, qd⟩, hk1, hk2, hk3, hk4⟩ := hS
  have h4 := hk2.1
  have h5 := hk3.1
  have e0 : sGv S c v = pO S (upd (sO S) c v) := by unfold sGv; rw [hd]
  refine ⟨(cs_ w 116 (upd (w.1 116) (19 + c) v)), ?_, ?_⟩
  · refine big_of (by decide +kernel) (Nat.le_of_ble_eq_true rfl) ?_
    show Ev G 3 0 mX12_gives 0 [some (.ref 115), some (.int (nI c)), some (.int v), none, none] [] w _
    refine ev_aload_n dX12_gives_0 rfl ?_
    refine ev_getR fX12_9 dX12_gives_1 (by decide) sh115 rfl ?_
    refine ev_bipush (v := nI 19) dX12_gives_4 (by decide) ?_
    refine ev_iload_n dX12_gives_6 rfl ?_
    refine ev_iadd dX12_gives_7 ?_
    first | refine ev_top (nI_add _ _) ?_ | skip
    refine ev_iload_n dX12_gives_8 rfl ?_
    refine ev_iastore dX12_gives_9 rfl (by omega) rfl (by decide) sh116 ?_
    refine ev_aload_n dX12_gives_10 rfl ?_
    refine ev_iload_n dX12_gives_11 rfl ?_
    have hm1 : mR (pO S (upd (sO S) c v)) (cs_ w 116 (upd (w.1 116) (19 + c) v)) := ⟨rA_own hS0.1 hS0.2 hc v, ok_pO hS0.2 hv⟩
    refine ev_callV kX12_71 co115 (qX12_dragonOn hm1 hc) dX12_gives_12 rfl (by decide) (by decide) rfl ?_
    rw [show dOn (pO S (upd (sO S) c v)) c = none from hd]
    refine ev_ist3 dX12_gives_15 (by decide) rfl ?_
    refine ev_iload_n dX12_gives_16 rfl ?_
    refine ev_if_lt_t (tgt := 75) dX12_gives_17 (by decide) (by decide) ?_
    exact ev_vret dX12_gives_75 rfl rfl rfl
  · exact ⟨by rw [e0]; exact ⟨rA_own hS0.1 hS0.2 hc v, ok_pO hS0.2 hv⟩, frG_cs frG_rf (by decide) _⟩
set_option maxRecDepth 4000 in
theorem qX12_gives_y {G : GX} {w : WS} {S : ST} (hS : mR S w) {c : Nat} (hc : c < 64) {v : Int32} (hv : r5 v) {i : Nat} (hd : dOn S c = some i) : ∃ w2, Big G 3 0 mX12_gives [.ref 115, .int (nI c), .int v] w (.inl none) w2 ∧ mR (sGv S c v) w2 ∧ frG [(116, 116)] w w2 := by
  have hS0 := hS
  obtain ⟨⟨q0, q1, ⟨m0, m1, m2, m3, m4⟩, qr, qc, qv, qd⟩, hk1, hk2, hk3, hk4⟩ := hS
  have h4 := hk2.1
  have h5 := hk3.1
  obtain ⟨hi, -⟩ := dOn_lt hd
  have hq4 := (hk3.2.1 i hi).2.2.2
  have hm1 : mR (pO S (upd (sO S) c v)) (cs_ w 116 (upd (w.1 116) (19 + c) v)) := ⟨rA_own hS0.1 hS0.2 hc v, ok_pO hS0.2 hv⟩
  have hm2 : mR (pC (pO S (upd (sO S) c v)) (upd (sC (pO S (upd (sO S) c v))) (dQ S i) (sC (pO S (upd (sO S) c v)) (dQ S i) + nI (dP S i)))) (cs_ (cs_ w 116 (upd (w.1 116) (19 + c) v)) 116 (upd ((cs_ w 116 (upd (w.1 116) (19 + c) v)).1 116) (7 + 3 * dQ S i) (sC S (dQ S i) + nI (dP S i)))) := ⟨rA_coin hm1.1 hm1.2 hq4 _, ok_pC hm1.2 _⟩
  have hm3 : mR (pM (pC (pO S (upd (sO S) c v)) (upd (sC (pO S (upd (sO S) c v))) (dQ S i) (sC (pO S (upd (sO S) c v)) (dQ S i) + nI (dP S i)))) (upd (sM (pC (pO S (upd (sO S) c v)) (upd (sC (pO S (upd (sO S) c v))) (dQ S i) (sC (pO S (upd (sO S) c v)) (dQ S i) + nI (dP S i))))) 2 (sM (pC (pO S (upd (sO S) c v)) (upd (sC (pO S (upd (sO S) c v))) (dQ S i) (sC (pO S (upd (sO S) c v)) (dQ S i) + nI (dP S i)))) 2 + nI 1))) (cs_ (cs_ (cs_ w 116 (upd (w.1 116) (19 + c) v)) 116 (upd ((cs_ w 116 (upd (w.1 116) (19 + c) v)).1 116) (7 + 3 * dQ S i) (sC S (dQ S i) + nI (dP S i)))) 116 (upd ((cs_ (cs_ w 116 (upd (w.1 116) (19 + c) v)) 116 (upd ((cs_ w 116 (upd (w.1 116) (19 + c) v)).1 116) (7 + 3 * dQ S i) (sC S (dQ S i) + nI (dP S i)))).1 116) (2 + 2) (sM S 2 + nI 1))) := ⟨rA_misc hm2.1 hm2.2 (j := 2) (by decide) _, ok_pM hm2.2 (by decide) _⟩
  have e0 : sGv S c v = sRm (pM (pC (pO S (upd (sO S) c v)) (upd (sC (pO S (upd (sO S) c v))) (dQ S i) (sC (pO S (upd (sO S) c v)) (dQ S i) + nI (dP S i)))) (upd (sM (pC (pO S (upd (sO S) c v)) (upd (sC (pO S (upd (sO S) c v))) (dQ S i) (sC (pO S (upd (sO S) c v)) (dQ S i) + nI (dP S i))))) 2 (sM (pC (pO S (upd (sO S) c v)) (upd (sC (pO S (upd (sO S) c v))) (dQ S i) (sC (pO S (upd (sO S) c v)) (dQ S i) + nI (dP S i)))) 2 + nI 1))) i := by unfold sGv; rw [hd]; rfl
  refine ⟨(cs_ (cs_ (cs_ (cs_ w 116 (upd (w.1 116) (19 + c) v)) 116 (upd ((cs_ w 116 (upd (w.1 116) (19 + c) v)).1 116) (7 + 3 * dQ S i) (sC S (dQ S i) + nI (dP S i)))) 116 (upd ((cs_ (cs_ w 116 (upd (w.1 116) (19 + c) v)) 116 (upd ((cs_ w 116 (upd (w.1 116) (19 + c) v)).1 116) (7 + 3 * dQ S i) (sC S (dQ S i) + nI (dP S i)))).1 116) (2 + 2) (sM S 2 + nI 1))) 116 (upd (va_cpy ((cs_ (cs_ (cs_ w 116 (upd (w.1 116) (19 + c) v)) 116 (upd ((cs_ w 116 (upd (w.1 116) (19 + c) v)).1 116) (7 + 3 * dQ S i) (sC S (dQ S i) + nI (dP S i)))) 116 (upd ((cs_ (cs_ w 116 (upd (w.1 116) (19 + c) v)) 116 (upd ((cs_ w 116 (upd (w.1 116) (19 + c) v)).1 116) (7 + 3 * dQ S i) (sC S (dQ S i) + nI (dP S i)))).1 116) (2 + 2) (sM S 2 + nI 1))).1 116) ((cs_ (cs_ (cs_ w 116 (upd (w.1 116) (19 + c) v)) 116 (upd ((cs_ w 116 (upd (w.1 116) (19 + c) v)).1 116) (7 + 3 * dQ S i) (sC S (dQ S i) + nI (dP S i)))) 116 (upd ((cs_ (cs_ w 116 (upd (w.1 116) (19 + c) v)) 116 (upd ((cs_ w 116 (upd (w.1 116) (19 + c) v)).1 116) (7 + 3 * dQ S i) (sC S (dQ S i) + nI (dP S i)))).1 116) (2 + 2) (sM S 2 + nI 1))).1 116) (143 + 3 * i + 3) (143 + 3 * i) (3 * (nD (pM (pC (pO S (upd (sO S) c v)) (upd (sC (pO S (upd (sO S) c v))) (dQ S i) (sC (pO S (upd (sO S) c v)) (dQ S i) + nI (dP S i)))) (upd (sM (pC (pO S (upd (sO S) c v)) (upd (sC (pO S (upd (sO S) c v))) (dQ S i) (sC (pO S (upd (sO S) c v)) (dQ S i) + nI (dP S i))))) 2 (sM (pC (pO S (upd (sO S) c v)) (upd (sC (pO S (upd (sO S) c v))) (dQ S i) (sC (pO S (upd (sO S) c v)) (dQ S i) + nI (dP S i)))) 2 + nI 1))) - 1 - i))) 1 (nI (nD (pM (pC (pO S (upd (sO S) c v)) (upd (sC (pO S (upd (sO S) c v))) (dQ S i) (sC (pO S (upd (sO S) c v)) (dQ S i) + nI (dP S i)))) (upd (sM (pC (pO S (upd (sO S) c v)) (upd (sC (pO S (upd (sO S) c v))) (dQ S i) (sC (pO S (upd (sO S) c v)) (dQ S i) + nI (dP S i))))) 2 (sM (pC (pO S (upd (sO S) c v)) (upd (sC (pO S (upd (sO S) c v))) (dQ S i) (sC (pO S (upd (sO S) c v)) (dQ S i) + nI (dP S i)))) 2 + nI 1))) - 1)))), ?_, ?_⟩
  · refine big_of (by decide +kernel) (Nat.le_of_ble_eq_true rfl) ?_
    show Ev G 3 0 mX12_gives 0 [some (.ref 115), some (.int (nI c)), some (.int v), none, none] [] w _
    refine ev_aload_n dX12_gives_0 rfl ?_
    refine ev_getR fX12_9 dX12_gives_1 (by decide) sh115 rfl ?_
    refine ev_bipush (v := nI 19) dX12_gives_4 (by decide) ?_
    refine ev_iload_n dX12_gives_6 rfl ?_
    refine ev_iadd dX12_gives_7 ?_
    first | refine ev_top (nI_add _ _) ?_ | skip
    refine ev_iload_n dX12_gives_8 rfl ?_
    refine ev_iastore dX12_gives_9 rfl (by omega) rfl (by decide) sh116 ?_
    refine ev_aload_n dX12_gives_10 rfl ?_
    refine ev_iload_n dX12_gives_11 rfl ?_
    refine ev_callV kX12_71 co115 (qX12_dragonOn hm1 hc) dX12_gives_12 rfl (by decide) (by decide) rfl ?_
    refine ev_top (y := nI i) (show oI (dOn S c) = _ by rw [hd]; rfl) ?_
    refine ev_ist3 dX12_gives_15 (by decide) rfl ?_
    refine ev_iload_n dX12_gives_16 rfl ?_
    refine ev_if_lt_f (tgt := 75) dX12_gives_17 (by decide) (nI_pos (by omega)) ?_
    refine ev_sipush (v := nI 143) dX12_gives_20 (by decide) ?_
    refine ev_iconst dX12_gives_23 ic3 ?_
    refine ev_iload_n dX12_gives_24 rfl ?_
    refine ev_imul dX12_gives_25 ?_
    first | refine ev_top (pk_mul _ _) ?_ | skip
    refine ev_iadd dX12_gives_26 ?_
    first | refine ev_top (nI_add _ _) ?_ | skip
    refine ev_ist4 dX12_gives_27 (by decide) rfl ?_
    refine ev_aload_n dX12_gives_29 rfl ?_
    refine ev_getR fX12_9 dX12_gives_30 (by decide) sh115 rfl ?_
    refine ev_bipush (v := nI 7) dX12_gives_33 (by decide) ?_
    refine ev_iconst dX12_gives_35 ic3 ?_
    refine ev_aload_n dX12_gives_36 rfl ?_
    refine ev_getR fX12_9 dX12_gives_37 (by decide) sh115 rfl ?_
    refine ev_iload dX12_gives_40 rfl ?_
    refine ev_iconst dX12_gives_42 ic2 ?_
    refine ev_iadd dX12_gives_43 ?_
    first | refine ev_top (nI_add _ _) ?_ | skip
    refine ev_iaload dX12_gives_44 rfl (by omega) (by decide) sh116 ?_
    refine ev_top (y := nI (dQ S i)) (hm1.1.2.2.2.2.2.2 i hi).2.2 ?_
    refine ev_imul dX12_gives_45 ?_
    first | refine ev_top (pk_mul _ _) ?_ | skip
    refine ev_iadd dX12_gives_46 ?_
    first | refine ev_top (nI_add _ _) ?_ | skip
    refine ev_dup2 dX12_gives_47 rfl rfl ?_
    refine ev_iaload dX12_gives_48 rfl (by omega) (by decide) sh116 ?_
    refine ev_top (y := sC S (dQ S i)) (hm1.1.2.2.2.1 (dQ S i) hq4).1 ?_
    refine ev_aload_n dX12_gives_49 rfl ?_
    refine ev_getR fX12_9 dX12_gives_50 (by decide) sh115 rfl ?_
    refine ev_iload dX12_gives_53 rfl ?_
    refine ev_iconst dX12_gives_55 ic1 ?_
    refine ev_iadd dX12_gives_56 ?_
    first | refine ev_top (nI_add _ _) ?_ | skip
    refine ev_iaload dX12_gives_57 rfl (by omega) (by decide) sh116 ?_
    refine ev_top (y := nI (dP S i)) (hm1.1.2.2.2.2.2.2 i hi).2.1 ?_
    refine ev_iadd dX12_gives_58 ?_
    refine ev_top rfl ?_
    refine ev_iastore dX12_gives_59 rfl (by omega) rfl (by decide) sh116 ?_
    refine ev_w (w' := (cs_ (cs_ w 116 (upd (w.1 116) (19 + c) v)) 116 (upd ((cs_ w 116 (upd (w.1 116) (19 + c) v)).1 116) (7 + 3 * dQ S i) (sC S (dQ S i) + nI (dP S i))))) rfl ?_
    refine ev_aload_n dX12_gives_60 rfl ?_
    refine ev_getR fX12_9 dX12_gives_61 (by decide) sh115 rfl ?_
    refine ev_iconst dX12_gives_64 ic4 ?_
    refine ev_dup2 dX12_gives_65 rfl rfl ?_
    refine ev_iaload dX12_gives_66 rfl (by omega) (by decide) sh116 ?_
    refine ev_top hm2.1.2.2.1.2.2.1 ?_
    refine ev_iconst dX12_gives_67 ic1 ?_
    refine ev_iadd dX12_gives_68 ?_
    refine ev_top rfl ?_
    refine ev_iastore dX12_gives_69 rfl (by omega) rfl (by decide) sh116 ?_
    refine ev_w (w' := (cs_ (cs_ (cs_ w 116 (upd (w.1 116) (19 + c) v)) 116 (upd ((cs_ w 116 (upd (w.1 116) (19 + c) v)).1 116) (7 + 3 * dQ S i) (sC S (dQ S i) + nI (dP S i)))) 116 (upd ((cs_ (cs_ w 116 (upd (w.1 116) (19 + c) v)) 116 (upd ((cs_ w 116 (upd (w.1 116) (19 + c) v)).1 116) (7 + 3 * dQ S i) (sC S (dQ S i) + nI (dP S i)))).1 116) (2 + 2) (sM S 2 + nI 1)))) rfl ?_
    refine ev_aload_n dX12_gives_70 rfl ?_
    refine ev_iload_n dX12_gives_71 rfl ?_
    refine ev_callV kX12_74 co115 (qX12_takes (S := (pM (pC (pO S (upd (sO S) c v)) (upd (sC (pO S (upd (sO S) c v))) (dQ S i) (sC (pO S (upd (sO S) c v)) (dQ S i) + nI (dP S i)))) (upd (sM (pC (pO S (upd (sO S) c v)) (upd (sC (pO S (upd (sO S) c v))) (dQ S i) (sC (pO S (upd (sO S) c v)) (dQ S i) + nI (dP S i))))) 2 (sM (pC (pO S (upd (sO S) c v)) (upd (sC (pO S (upd (sO S) c v))) (dQ S i) (sC (pO S (upd (sO S) c v)) (dQ S i) + nI (dP S i)))) 2 + nI 1)))) (w := (cs_ (cs_ (cs_ w 116 (upd (w.1 116) (19 + c) v)) 116 (upd ((cs_ w 116 (upd (w.1 116) (19 + c) v)).1 116) (7 + 3 * dQ S i) (sC S (dQ S i) + nI (dP S i)))) 116 (upd ((cs_ (cs_ w 116 (upd (w.1 116) (19 + c) v)) 116 (upd ((cs_ w 116 (upd (w.1 116) (19 + c) v)).1 116) (7 + 3 * dQ S i) (sC S (dQ S i) + nI (dP S i)))).1 116) (2 + 2) (sM S 2 + nI 1)))) hm3 (i := i) hi) dX12_gives_72 rfl (by decide) (by decide) rfl ?_
    exact ev_vret dX12_gives_75 rfl rfl rfl
  · exact ⟨by rw [e0]; exact ⟨rA_take hm3.1 hm3.2 (i := i) hi, ok_rm hm3.2 hi⟩, frG_cs (frG_cs (frG_cs (frG_cs frG_rf (by decide) _) (by decide) _) (by decide) _) (by decide) _⟩
theorem qX12_gives {G : GX} {w : WS} {S : ST} (hS : mR S w) {c : Nat} (hc : c < 64) {v : Int32} (hv : r5 v) : ∃ w2, Big G 3 0 mX12_gives [.ref 115, .int (nI c), .int v] w (.inl none) w2 ∧ mR (sGv S c v) w2 ∧ frG [(116, 116)] w w2 := by
  cases h : dOn S c with
  | none => exact qX12_gives_n hS hc hv h
  | some i => exact qX12_gives_y hS hc hv h
set_option maxRecDepth 4000 in
theorem qX12_doPaint_n {G : GX} {w : WS} {x y : Int32} (hx : out_ 64 x) : Big G 5 0 mX12_doPaint [.ref 115, .int x, .int y] w (.inl (some (.int (nI 0)))) (wT w 1) := by
  refine big_of (by decide +kernel) (Nat.le_of_ble_eq_true rfl) ?_
  show Ev G 5 0 mX12_doPaint 0 [some (.ref 115), some (.int x), some (.int y), none] [] w _
  refine ev_iload_n dX12_doPaint_0 rfl ?_
  refine ev_callS kX12_78 (qX12_isCell_n hx) dX12_doPaint_1 rfl (by decide) (by decide) rfl ?_
  refine ev_if_ne_f (tgt := 13) dX12_doPaint_4 (by decide) rfl ?_
  refine ev_aload_n dX12_doPaint_7 rfl ?_
  refine ev_iconst dX12_doPaint_8 ic1 ?_
  refine ev_callV kX12_82 co115 qX12_fails dX12_doPaint_9 rfl (by decide) (by decide) rfl ?_
  exact ev_iret dX12_doPaint_12 rfl rfl rfl rfl
theorem m1_out {y : Int32} (hy : out_ 4 y) (hm : y ≠ -1) : y < -1 ∨ nI 3 < y := by
  rcases hy with q | q
  · left
    rw [Int32.lt_iff_toInt_lt] at q ⊢
    have h0 : (0 : Int32).toInt = 0 := by decide
    have h1 : (-1 : Int32).toInt = -1 := by decide
    have h2 : y.toInt ≠ (-1 : Int32).toInt := fun z => hm (Int32.toInt_inj.mp z)
    omega
  · exact Or.inr (nI_lt10 (by decide) q)
set_option maxRecDepth 4000 in
theorem qX12_doPaint_m {G : GX} {w : WS} {c : Nat} {y : Int32} (hc : c < 64) (hy : out_ 4 y) (hm : y ≠ -1) : Big G 5 0 mX12_doPaint [.ref 115, .int (nI c), .int y] w (.inl (some (.int (nI 0)))) (wT w 2) := by
  refine big_of (by decide +kernel) (Nat.le_of_ble_eq_true rfl) ?_
  show Ev G 5 0 mX12_doPaint 0 [some (.ref 115), some (.int (nI c)), some (.int y), none] [] w _
  refine ev_iload_n dX12_doPaint_0 rfl ?_
  refine ev_callS kX12_78 (qX12_isCell_y hc) dX12_doPaint_1 rfl (by decide) (by decide) rfl ?_
  refine ev_if_ne_t (tgt := 13) dX12_doPaint_4 (by decide) (by decide) ?_
  refine ev_iload_n dX12_doPaint_13 rfl ?_
  refine ev_iconst dX12_doPaint_14 icm1 ?_
  refine ev_iconst dX12_doPaint_15 ic3 ?_
  refine ev_callS kX12_63 (qX12_in_f (m1_out hy hm)) dX12_doPaint_16 rfl (by decide) (by decide) rfl ?_
  refine ev_if_ne_f (tgt := 28) dX12_doPaint_19 (by decide) rfl ?_
  refine ev_aload_n dX12_doPaint_22 rfl ?_
  refine ev_iconst dX12_doPaint_23 ic2 ?_
  refine ev_callV kX12_82 co115 qX12_fails dX12_doPaint_24 rfl (by decide) (by decide) rfl ?_
  exact ev_iret dX12_doPaint_27 rfl rfl rfl rfl
set_option maxRecDepth 4000 in
theorem qX12_doPaint {G : GX} {w : WS} {S : ST} (hS : mR S w) {c : Nat} (hc : c < 64) {v : Int32} (hv : r5 v) : ∃ o w2, (pDo S (.inl (c, v)) 3 w o w2) ∧ Big G 5 0 mX12_doPaint [.ref 115, .int (nI c), .int v] w o w2 := by
  refine bx_of (P := pDo S (.inl (c, v)) 3 w) (by decide +kernel) (Nat.le_of_ble_eq_true rfl) ?_
  show Ex G 5 0 mX12_doPaint 0 [some (.ref 115), some (.int (nI c)), some (.int v), none] [] w _
  refine ex_s (fun _ => ev_iload_n dX12_doPaint_0 rfl) ?_
  refine ex_s (fun _ => ev_callS kX12_78 (qX12_isCell_y hc) dX12_doPaint_1 rfl (by decide) (by decide) rfl) ?_
  refine ex_s (fun _ => ev_if_ne_t (tgt := 13) dX12_doPaint_4 (by decide) (by decide)) ?_
  refine ex_s (fun _ => ev_iload_n dX12_doPaint_13 rfl) ?_
  refine ex_s (fun _ => ev_iconst dX12_doPaint_14 icm1) ?_
  refine ex_s (fun _ => ev_iconst dX12_doPaint_15 ic3) ?_
  refine ex_s (fun _ => ev_callS kX12_63 (qX12_in_t (r5_le hv).1 (r5_le hv).2) dX12_doPaint_16 rfl (by decide) (by decide) rfl) ?_
  refine ex_s (fun _ => ev_if_ne_t (tgt := 28) dX12_doPaint_19 (by decide) (by decide)) ?_
  refine ex_s (fun _ => ev_aload_n dX12_doPaint_28 rfl) ?_
  refine ex_s (fun _ => ev_iload_n dX12_doPaint_29 rfl) ?_
  refine ex_s (fun _ => ev_callV kX12_67 co115 (qX12_at hS hc) dX12_doPaint_30 rfl (by decide) (by decide) rfl) ?_
  refine ex_s (fun _ => ev_ist3 dX12_doPaint_33 (by decide) rfl) ?_
  refine ex_s (fun _ => ev_iload_n dX12_doPaint_34 rfl) ?_
  refine ex_s (fun _ => ev_iload_n dX12_doPaint_35 rfl) ?_
  refine ex_bn (fun _ => ev_icmp_ne (tgt := 47) dX12_doPaint_36 (by decide)) (fun hc36 => ?_) (fun hc36 => ?_)
  · refine ex_s (fun _ => ev_aload_n dX12_doPaint_47 rfl) ?_
    refine ex_s (fun _ => ev_iload_n dX12_doPaint_48 rfl) ?_
    refine ex_s (fun _ => ev_iload_n dX12_doPaint_49 rfl) ?_
    obtain ⟨w2, hB, k1, k2⟩ := qX12_gives (G := G) hS hc hv
    refine ex_s (fun _ => ev_callV kX12_89 co115 hB dX12_doPaint_50 rfl (by decide) (by decide) rfl) ?_
    refine ex_s (fun _ => ev_iload_n dX12_doPaint_53 rfl) ?_
    exact ⟨_, _, (by exact pDo_y (by simp only [grC]; rw [if_neg hc36]) k1 k2 rfl), ev_iret dX12_doPaint_54 rfl rfl rfl rfl⟩
  · refine ex_s (fun _ => ev_aload_n dX12_doPaint_39 rfl) ?_
    refine ex_s (fun _ => ev_iconst dX12_doPaint_40 ic3) ?_
    refine ex_s (fun _ => ev_iconst dX12_doPaint_41 ic1) ?_
    refine ex_s (fun _ => ev_iload_n dX12_doPaint_42 rfl) ?_
    refine ex_s (fun _ => ev_callV kX12_85 co115 (qX12_refuse (k := 3)) dX12_doPaint_43 rfl (by decide) (by decide) rfl) ?_
    exact ⟨_, _, (by exact pDo_n1 hS frG_rf (g := 1) (by simp only [grC]; rw [if_pos hc36]) (by decide) (by decide) (by decide) rfl), ev_iret dX12_doPaint_46 rfl rfl rfl rfl⟩
set_option maxRecDepth 4000 in
theorem qX12_doShave_n {G : GX} {w : WS} {x y : Int32} (hx : out_ 64 x) : Big G 5 0 mX12_doShave [.ref 115, .int x, .int y] w (.inl (some (.int (nI 0)))) (wT w 1) := by
  refine big_of (by decide +kernel) (Nat.le_of_ble_eq_true rfl) ?_
  show Ev G 5 0 mX12_doShave 0 [some (.ref 115), some (.int x), some (.int y), none, none] [] w _
  refine ev_iload_n dX12_doShave_0 rfl ?_
  refine ev_callS kX12_78 (qX12_isCell_n hx) dX12_doShave_1 rfl (by decide) (by decide) rfl ?_
  refine ev_if_eq_t (tgt := 14) dX12_doShave_4 (by decide) rfl ?_
  refine ev_aload_n dX12_doShave_14 rfl ?_
  refine ev_iconst dX12_doShave_15 ic1 ?_
  refine ev_callV kX12_82 co115 qX12_fails dX12_doShave_16 rfl (by decide) (by decide) rfl ?_
  exact ev_iret dX12_doShave_19 rfl rfl rfl rfl
set_option maxRecDepth 4000 in
theorem qX12_doShave_m {G : GX} {w : WS} {c : Nat} {y : Int32} (hc : c < 64) (hy : out_ 4 y) : Big G 5 0 mX12_doShave [.ref 115, .int (nI c), .int y] w (.inl (some (.int (nI 0)))) (wT w 1) := by
  refine big_of (by decide +kernel) (Nat.le_of_ble_eq_true rfl) ?_
  show Ev G 5 0 mX12_doShave 0 [some (.ref 115), some (.int (nI c)), some (.int y), none, none] [] w _
  refine ev_iload_n dX12_doShave_0 rfl ?_
  refine ev_callS kX12_78 (qX12_isCell_y hc) dX12_doShave_1 rfl (by decide) (by decide) rfl ?_
  refine ev_if_eq_f (tgt := 14) dX12_doShave_4 (by decide) (by decide) ?_
  refine ev_iload_n dX12_doShave_7 rfl ?_
  refine ev_callS kX12_113 (qX12_isRealm_n hy) dX12_doShave_8 rfl (by decide) (by decide) rfl ?_
  refine ev_if_ne_f (tgt := 20) dX12_doShave_11 (by decide) rfl ?_
  refine ev_aload_n dX12_doShave_14 rfl ?_
  refine ev_iconst dX12_doShave_15 ic1 ?_
  refine ev_callV kX12_82 co115 qX12_fails dX12_doShave_16 rfl (by decide) (by decide) rfl ?_
  exact ev_iret dX12_doShave_19 rfl rfl rfl rfl
set_option maxRecDepth 4000 in
theorem qX12_doShave {G : GX} {w : WS} {S : ST} (hS : mR S w) {c r : Nat} (hc : c < 64) (hr : r < 4) : ∃ o w2, (pDo S (.inr (.inl (c, r))) 2 w o w2) ∧ Big G 5 0 mX12_doShave [.ref 115, .int (nI c), .int (nI r)] w o w2 := by
  refine bx_of (P := pDo S (.inr (.inl (c, r))) 2 w) (by decide +kernel) (Nat.le_of_ble_eq_true rfl) ?_
  show Ex G 5 0 mX12_doShave 0 [some (.ref 115), some (.int (nI c)), some (.int (nI r)), none, none] [] w _
  refine ex_s (fun _ => ev_iload_n dX12_doShave_0 rfl) ?_
  refine ex_s (fun _ => ev_callS kX12_78 (qX12_isCell_y hc) dX12_doShave_1 rfl (by decide) (by decide) rfl) ?_
  refine ex_s (fun _ => ev_if_eq_f (tgt := 14) dX12_doShave_4 (by decide) (by decide)) ?_
  refine ex_s (fun _ => ev_iload_n dX12_doShave_7 rfl) ?_
  refine ex_s (fun _ => ev_callS kX12_113 (qX12_isRealm_y hr) dX12_doShave_8 rfl (by decide) (by decide) rfl) ?_
  refine ex_s (fun _ => ev_if_ne_t (tgt := 20) dX12_doShave_11 (by decide) (by decide)) ?_
  refine ex_s (fun _ => ev_aload_n dX12_doShave_20 rfl) ?_
  refine ex_s (fun _ => ev_iload_n dX12_doShave_21 rfl) ?_
  refine ex_s (fun _ => ev_callV kX12_67 co115 (qX12_at hS hc) dX12_doShave_22 rfl (by decide) (by decide) rfl) ?_
  refine ex_s (fun _ => ev_ist3 dX12_doShave_25 (by decide) rfl) ?_
  refine ex_s (fun _ => ev_iload_n dX12_doShave_26 rfl) ?_
  refine ex_s (fun _ => ev_iload_n dX12_doShave_27 rfl) ?_
  refine ex_bn (fun _ => ev_icmp_ne (tgt := 39) dX12_doShave_28 (by decide)) (fun hc28 => ?_) (fun hc28 => ?_)
  · refine ex_s (fun _ => ev_aload_n dX12_doShave_39 rfl) ?_
    refine ex_s (fun _ => ev_iload_n dX12_doShave_40 rfl) ?_
    refine ex_s (fun _ => ev_iload_n dX12_doShave_41 rfl) ?_
    refine ex_s (fun _ => ev_callV kX12_116 co115 (qX12_hinders hS hc) dX12_doShave_42 rfl (by decide) (by decide) rfl) ?_
    have hh5 : hnd S c (nI r) ≤ 5 ∧ hnd S c (nI r) ≠ 1 ∧ hnd S c (nI r) ≠ 2 := by unfold hnd; (repeat' split) <;> decide
    refine ex_s (fun _ => ev_ist4 dX12_doShave_45 (by decide) rfl) ?_
    refine ex_s (fun _ => ev_iload dX12_doShave_47 rfl) ?_
    refine ex_bp (fun _ => ev_if_le (tgt := 83) dX12_doShave_49 (by decide)) (fun hc49 => ?_) (fun hc49 => ?_)
    · have e49 : hnd S c (nI r) = 0 := (le0 (by omega)).mp hc49
      have hgr : grC S (.inr (.inl (c, r))) = 0 := by simp only [grC]; rw [shS_h hc28, e49, if_pos (Or.inl rfl)]
      have hne : sO S c ≠ -1 := fun z => by unfold hnd at e49; rw [if_pos z] at e49; cases e49
      obtain ⟨a, ha, hoa, hon⟩ := ow_ hS.2 hc hne
      rw [hoa]
      obtain ⟨w2, hB, k1, k2⟩ := qX12_gives (G := G) hS hc (v := nI r) (Or.inr ⟨r, hr, rfl⟩)
      refine ex_s (fun _ => ev_aload_n dX12_doShave_83 rfl) ?_
      refine ex_s (fun _ => ev_iload_n dX12_doShave_84 rfl) ?_
      refine ex_s (fun _ => ev_iload_n dX12_doShave_85 rfl) ?_
      refine ex_s (fun _ => ev_callV kX12_89 co115 hB dX12_doShave_86 rfl (by decide) (by decide) rfl) ?_
      refine ex_s (fun _ => ev_aload_n dX12_doShave_89 rfl) ?_
      refine ex_s (fun _ => ev_getR fX12_9 dX12_doShave_90 (by decide) sh115 rfl) ?_
      refine ex_s (fun _ => ev_bipush (v := nI 7) dX12_doShave_93 (by decide)) ?_
      refine ex_s (fun _ => ev_iconst dX12_doShave_95 ic3) ?_
      refine ex_s (fun _ => ev_iload_n dX12_doShave_96 rfl) ?_
      refine ex_s (fun _ => ev_imul dX12_doShave_97) ?_
      first | refine ex_s (fun _ => ev_top (pk_mul _ _)) ?_ | skip
      refine ex_s (fun _ => ev_iadd dX12_doShave_98) ?_
      first | refine ex_s (fun _ => ev_top (nI_add _ _)) ?_ | skip
      refine ex_s (fun _ => ev_iconst dX12_doShave_99 ic1) ?_
      refine ex_s (fun _ => ev_iadd dX12_doShave_100) ?_
      first | refine ex_s (fun _ => ev_top (nI_add _ _)) ?_ | skip
      refine ex_s (fun _ => ev_dup2 dX12_doShave_101 rfl rfl) ?_
      refine ex_s (fun _ => ev_iaload dX12_doShave_102 rfl (by omega) (by decide) sh116) ?_
      refine ex_s (fun _ => ev_top (k1.1.2.2.2.1 r hr).2.1) ?_
      refine ex_s (fun _ => ev_iconst dX12_doShave_103 ic1) ?_
      refine ex_s (fun _ => ev_iadd dX12_doShave_104) ?_
      refine ex_s (fun _ => ev_top rfl) ?_
      refine ex_s (fun _ => ev_iastore dX12_doShave_105 rfl (by omega) rfl (by decide) sh116) ?_
      have m2 := rA_won k1.1 k1.2 hr (sW (sGv S c (nI r)) r + nI 1)
      refine ex_s (fun _ => ev_aload_n dX12_doShave_106 rfl) ?_
      refine ex_s (fun _ => ev_getR fX12_9 dX12_doShave_107 (by decide) sh115 rfl) ?_
      refine ex_s (fun _ => ev_bipush (v := nI 7) dX12_doShave_110 (by decide)) ?_
      refine ex_s (fun _ => ev_iconst dX12_doShave_112 ic3) ?_
      refine ex_s (fun _ => ev_iload_n dX12_doShave_113 rfl) ?_
      refine ex_s (fun _ => ev_imul dX12_doShave_114) ?_
      first | refine ex_s (fun _ => ev_top (pk_mul _ _)) ?_ | skip
      refine ex_s (fun _ => ev_iadd dX12_doShave_115) ?_
      first | refine ex_s (fun _ => ev_top (nI_add _ _)) ?_ | skip
      refine ex_s (fun _ => ev_iconst dX12_doShave_116 ic2) ?_
      refine ex_s (fun _ => ev_iadd dX12_doShave_117) ?_
      first | refine ex_s (fun _ => ev_top (nI_add _ _)) ?_ | skip
      refine ex_s (fun _ => ev_dup2 dX12_doShave_118 rfl rfl) ?_
      refine ex_s (fun _ => ev_iaload dX12_doShave_119 rfl (by omega) (by decide) sh116) ?_
      refine ex_s (fun _ => ev_top (m2.2.2.2.1 a ha).2.2) ?_
      refine ex_s (fun _ => ev_iconst dX12_doShave_120 ic1) ?_
      refine ex_s (fun _ => ev_iadd dX12_doShave_121) ?_
      refine ex_s (fun _ => ev_top rfl) ?_
      refine ex_s (fun _ => ev_iastore dX12_doShave_122 rfl (by omega) rfl (by decide) sh116) ?_
      have m3 := rA_lost m2 (S := pW (sGv S c (nI r)) _) k1.2 ha (sL (sGv S c (nI r)) a + nI 1)
      refine ex_s (fun _ => ev_aload_n dX12_doShave_123 rfl) ?_
      refine ex_s (fun _ => ev_getR fX12_9 dX12_doShave_124 (by decide) sh115 rfl) ?_
      refine ex_s (fun _ => ev_iconst dX12_doShave_127 ic3) ?_
      refine ex_s (fun _ => ev_dup2 dX12_doShave_128 rfl rfl) ?_
      refine ex_s (fun _ => ev_iaload dX12_doShave_129 rfl (by omega) (by decide) sh116) ?_
      refine ex_s (fun _ => ev_top m3.2.2.1.2.1) ?_
      refine ex_s (fun _ => ev_iconst dX12_doShave_130 ic1) ?_
      refine ex_s (fun _ => ev_iadd dX12_doShave_131) ?_
      refine ex_s (fun _ => ev_top rfl) ?_
      refine ex_s (fun _ => ev_iastore dX12_doShave_132 rfl (by omega) rfl (by decide) sh116) ?_
      have m4 := rA_misc m3 (S := pL (pW (sGv S c (nI r)) _) _) k1.2 (j := 1) (by decide) (sM (sGv S c (nI r)) 1 + nI 1)
      refine ex_s (fun _ => ev_iload_n dX12_doShave_133 rfl) ?_
      exact ⟨_, _, (by exact pDo_y hgr (by rw [show cdo S (.inr (.inl (c, r))) = sSh S c a r by rw [← hon]; rfl]; exact ⟨m4, ok_sh hS.2 hr⟩) (frG_cs (frG_cs (frG_cs k2 (by decide) _) (by decide) _) (by decide) _) hoa.symm), ev_iret dX12_doShave_134 rfl rfl rfl rfl⟩
    · have e49 : hnd S c (nI r) ≠ 0 := fun z => hc49 ((le0 (by omega)).mpr z)
      have hgr : grC S (.inr (.inl (c, r))) = 2 := by simp only [grC]; rw [shS_h hc28, if_neg (by omega)]
      have hsh : shS S c (nI r) = hnd S c (nI r) := shS_h hc28
      have hP : ∀ x, x = dtC S (.inr (.inl (c, r))) (hnd S c (nI r)) → pDo S (.inr (.inl (c, r))) 2 w (.inl (some (.int (nI 0)))) (wRf w 2 (nI 2) (nI c) (nI (hnd S c (nI r))) x) := fun x hx => by
        refine ⟨⟨_, rfl, fun z => absurd (hgr.symm.trans z) (by decide)⟩, fun _ => ⟨mRe hS rfl, rfl, ?_, frG_cs (frG_cs frG_rf (by decide) _) (by decide) _⟩, fun z => absurd (hgr.symm.trans z) (by decide)⟩
        unfold kpC
        rw [hgr, if_pos rfl, hx]
        show rsn [(nI 2, nI c), (nI (shS S c (nI r)), dtC S _ (shS S c (nI r)))] _
        rw [hsh]
        exact rsn_2 (by decide) (fun z => absurd (nI_inj (by omega) (by decide) z) (by omega))
      refine ex_s (fun _ => ev_aload_n dX12_doShave_52 rfl) ?_
      refine ex_s (fun _ => ev_iconst dX12_doShave_53 ic2) ?_
      refine ex_s (fun _ => ev_iconst dX12_doShave_54 ic2) ?_
      refine ex_s (fun _ => ev_iload_n dX12_doShave_55 rfl) ?_
      refine ex_s (fun _ => ev_iload dX12_doShave_56 rfl) ?_
      refine ex_s (fun _ => ev_iload dX12_doShave_58 rfl) ?_
      refine ex_s (fun _ => ev_iconst dX12_doShave_60 ic3) ?_
      refine ex_bn (fun _ => ev_icmp_ne (tgt := 68) dX12_doShave_61 (by decide)) (fun hc61 => ?_) (fun hc61 => ?_)
      · have e61 : ¬ hnd S c (nI r) = 3 := fun z => hc61 (by rw [z])
        refine ex_s (fun _ => ev_iload dX12_doShave_68 rfl) ?_
        refine ex_s (fun _ => ev_iconst dX12_doShave_70 ic4) ?_
        refine ex_bn (fun _ => ev_icmp_ne (tgt := 78) dX12_doShave_71 (by decide)) (fun hc71 => ?_) (fun hc71 => ?_)
        · have e71 : hnd S c (nI r) = 5 := by
            have : ¬ hnd S c (nI r) = 4 := fun z => hc71 (by rw [z])
            omega
          refine ex_s (fun _ => ev_iload_n dX12_doShave_78 rfl) ?_
          refine ex_s (fun _ => ev_callV kX12_55 co115 (qX12_refuseFor (k := 2)) dX12_doShave_79 rfl (by decide) (by decide) rfl) ?_
          exact ⟨_, _, (by exact hP _ (by rw [e71]; rfl)), ev_iret dX12_doShave_82 rfl rfl rfl rfl⟩
        · have e71 : hnd S c (nI r) = 4 := nI_inj (by omega) (by decide) hc71
          refine ex_s (fun _ => ev_iload_n dX12_doShave_74 rfl) ?_
          refine ex_s (fun _ => ev_goto (tgt := 79) dX12_doShave_75 (by decide)) ?_
          refine ex_s (fun _ => ev_callV kX12_55 co115 (qX12_refuseFor (k := 2)) dX12_doShave_79 rfl (by decide) (by decide) rfl) ?_
          exact ⟨_, _, (by exact hP _ (by rw [e71]; rfl)), ev_iret dX12_doShave_82 rfl rfl rfl rfl⟩
      · have e61 : hnd S c (nI r) = 3 := nI_inj (by omega) (by decide) hc61
        refine ex_s (fun _ => ev_iload_n dX12_doShave_64 rfl) ?_
        refine ex_s (fun _ => ev_goto (tgt := 79) dX12_doShave_65 (by decide)) ?_
        refine ex_s (fun _ => ev_callV kX12_55 co115 (qX12_refuseFor (k := 2)) dX12_doShave_79 rfl (by decide) (by decide) rfl) ?_
        exact ⟨_, _, (by exact hP _ (by rw [e61]; rfl)), ev_iret dX12_doShave_82 rfl rfl rfl rfl⟩
  · refine ex_s (fun _ => ev_aload_n dX12_doShave_31 rfl) ?_
    refine ex_s (fun _ => ev_iconst dX12_doShave_32 ic2) ?_
    refine ex_s (fun _ => ev_iconst dX12_doShave_33 ic1) ?_
    refine ex_s (fun _ => ev_iload_n dX12_doShave_34 rfl) ?_
    refine ex_s (fun _ => ev_callV kX12_85 co115 (qX12_refuse (k := 2)) dX12_doShave_35 rfl (by decide) (by decide) rfl) ?_
    exact ⟨_, _, (by exact pDo_n1 hS frG_rf (g := 1) (by have e : shS S c (nI r) = 1 := if_pos hc28; simp only [grC]; rw [if_pos (Or.inr e)]; exact e) (by decide) (by decide) (by decide) rfl), ev_iret dX12_doShave_38 rfl rfl rfl rfl⟩
set_option maxRecDepth 4000 in
theorem qX12_doScale_n {G : GX} {w : WS} {S : ST} (hS : mR S w) {x : Int32} (hx : x < nI 1 ∨ nI 9 < x) : Big G 5 0 mX12_doScale [.ref 115, .int x] w (.inl (some (.int (nI 0)))) (wT w 1) := by
  refine big_of (by decide +kernel) (Nat.le_of_ble_eq_true rfl) ?_
  have hS0 := hS
  obtain ⟨⟨q0, q1, ⟨m0, m1, m2, m3, m4⟩, qr, qc, qv, qd⟩, hk1, hk2, hk3, hk4⟩ := hS
  have h4 := hk2.1
  have h5 := hk3.1
  show Ev G 5 0 mX12_doScale 0 [some (.ref 115), some (.int x), none] [] w _
  refine ev_aload_n dX12_doScale_0 rfl ?_
  refine ev_getR fX12_9 dX12_doScale_1 (by decide) sh115 rfl ?_
  refine ev_iconst dX12_doScale_4 ic2 ?_
  refine ev_iaload dX12_doScale_5 rfl (by omega) (by decide) sh116 ?_
  refine ev_ist2 dX12_doScale_6 (by decide) rfl ?_
  refine ev_iload_n dX12_doScale_7 rfl ?_
  refine ev_iconst dX12_doScale_8 ic1 ?_
  refine ev_bipush (v := nI 9) dX12_doScale_9 (by decide) ?_
  refine ev_callS kX12_63 (qX12_in_f hx) dX12_doScale_11 rfl (by decide) (by decide) rfl ?_
  refine ev_if_ne_f (tgt := 23) dX12_doScale_14 (by decide) rfl ?_
  refine ev_aload_n dX12_doScale_17 rfl ?_
  refine ev_iconst dX12_doScale_18 ic1 ?_
  refine ev_callV kX12_82 co115 qX12_fails dX12_doScale_19 rfl (by decide) (by decide) rfl ?_
  exact ev_iret dX12_doScale_22 rfl rfl rfl rfl
set_option maxRecDepth 4000 in
theorem qX12_doScale {G : GX} {w : WS} {S : ST} (hS : mR S w) {k : Nat} (h1 : 1 ≤ k) (h9 : k ≤ 9) : ∃ o w2, (pDo S (.inr (.inr (.inl k))) 2 w o w2) ∧ Big G 5 0 mX12_doScale [.ref 115, .int (nI k)] w o w2 := by
  have hS0 := hS
  obtain ⟨⟨q0, q1, ⟨m0, m1, m2, m3, m4⟩, qr, qc, qv, qd⟩, hk1, hk2, hk3, hk4⟩ := hS
  have h4 := hk2.1
  have h5 := hk3.1
  refine bx_of (P := pDo S (.inr (.inr (.inl k))) 2 w) (by decide +kernel) (Nat.le_of_ble_eq_true rfl) ?_
  show Ex G 5 0 mX12_doScale 0 [some (.ref 115), some (.int (nI k)), none] [] w _
  refine ex_s (fun _ => ev_aload_n dX12_doScale_0 rfl) ?_
  refine ex_s (fun _ => ev_getR fX12_9 dX12_doScale_1 (by decide) sh115 rfl) ?_
  refine ex_s (fun _ => ev_iconst dX12_doScale_4 ic2) ?_
  refine ex_s (fun _ => ev_iaload dX12_doScale_5 rfl (by omega) (by decide) sh116) ?_
  refine ex_s (fun _ => ev_top m0) ?_
  refine ex_s (fun _ => ev_ist2 dX12_doScale_6 (by decide) rfl) ?_
  refine ex_s (fun _ => ev_iload_n dX12_doScale_7 rfl) ?_
  refine ex_s (fun _ => ev_iconst dX12_doScale_8 ic1) ?_
  refine ex_s (fun _ => ev_bipush (v := nI 9) dX12_doScale_9 (by decide)) ?_
  refine ex_s (fun _ => ev_callS kX12_63 (qX12_in_t (nI_le h1 (by omega)) (nI_le h9 (by decide))) dX12_doScale_11 rfl (by decide) (by decide) rfl) ?_
  refine ex_s (fun _ => ev_if_ne_t (tgt := 23) dX12_doScale_14 (by decide) (by decide)) ?_
  refine ex_s (fun _ => ev_iload_n dX12_doScale_23 rfl) ?_
  refine ex_s (fun _ => ev_iload_n dX12_doScale_24 rfl) ?_
  refine ex_bn (fun _ => ev_icmp_ne (tgt := 36) dX12_doScale_25 (by decide)) (fun hc25 => ?_) (fun hc25 => ?_)
  · refine ex_s (fun _ => ev_aload_n dX12_doScale_36 rfl) ?_
    refine ex_s (fun _ => ev_getR fX12_9 dX12_doScale_37 (by decide) sh115 rfl) ?_
    refine ex_s (fun _ => ev_iconst dX12_doScale_40 ic2) ?_
    refine ex_s (fun _ => ev_iload_n dX12_doScale_41 rfl) ?_
    refine ex_s (fun _ => ev_iastore dX12_doScale_42 rfl (by omega) rfl (by decide) sh116) ?_
    refine ex_s (fun _ => ev_iload_n dX12_doScale_43 rfl) ?_
    exact ⟨_, _, (by exact pDo_y (by simp only [grC]; rw [if_neg (fun z => hc25 z.symm)]) ⟨rA_misc hS0.1 hS0.2 (j := 0) (by decide) (nI k), ok_mi hS0.2 h1 h9⟩ (frG_cs frG_rf (by decide) _) rfl), ev_iret dX12_doScale_44 rfl rfl rfl rfl⟩
  · refine ex_s (fun _ => ev_aload_n dX12_doScale_28 rfl) ?_
    refine ex_s (fun _ => ev_iconst dX12_doScale_29 ic2) ?_
    refine ex_s (fun _ => ev_iconst dX12_doScale_30 ic1) ?_
    refine ex_s (fun _ => ev_iload_n dX12_doScale_31 rfl) ?_
    refine ex_s (fun _ => ev_callV kX12_85 co115 (qX12_refuse (k := 2)) dX12_doScale_32 rfl (by decide) (by decide) rfl) ?_
    exact ⟨_, _, (by exact pDo_n1 hS0 frG_rf (g := 1) (by simp only [grC]; rw [if_pos hc25.symm]) (by decide) (by decide) (by decide) rfl), ev_iret dX12_doScale_35 rfl rfl rfl rfl⟩
set_option maxRecDepth 4000 in
theorem qX12_doDrop_n {G : GX} {w : WS} {S : ST} (hS : mR S w) {x : Int32} (hx : out_ (nR S) x) : Big G 5 0 mX12_doDrop [.ref 115, .int x] w (.inl (some (.int (nI 0)))) (wT w 1) := by
  refine big_of (by decide +kernel) (Nat.le_of_ble_eq_true rfl) ?_
  show Ev G 5 0 mX12_doDrop 0 [some (.ref 115), some (.int x), none, none] [] w _
  refine ev_aload_n dX12_doDrop_0 rfl ?_
  refine ev_iload_n dX12_doDrop_1 rfl ?_
  refine ev_callV kX12_141 co115 (qX12_isRiver_n hS hx) dX12_doDrop_2 rfl (by decide) (by decide) rfl ?_
  refine ev_if_ne_f (tgt := 14) dX12_doDrop_5 (by decide) rfl ?_
  refine ev_aload_n dX12_doDrop_8 rfl ?_
  refine ev_iconst dX12_doDrop_9 ic1 ?_
  refine ev_callV kX12_82 co115 qX12_fails dX12_doDrop_10 rfl (by decide) (by decide) rfl ?_
  exact ev_iret dX12_doDrop_13 rfl rfl rfl rfl
set_option maxRecDepth 4000 in
theorem qX12_doDrop {G : GX} {w : WS} {S : ST} (hS : mR S w) {i : Nat} (hi : i < nR S) : ∃ o w2, (pDo S (.inr (.inr (.inr (.inr (.inl i))))) 9 w o w2) ∧ Big G 5 0 mX12_doDrop [.ref 115, .int (nI i)] w o w2 := by
  have hS0 := hS
  obtain ⟨⟨q0, q1, ⟨m0, m1, m2, m3, m4⟩, qr, qc, qv, qd⟩, hk1, hk2, hk3, hk4⟩ := hS
  have h4 := hk2.1
  have h5 := hk3.1
  refine bx_of (P := pDo S (.inr (.inr (.inr (.inr (.inl i))))) 9 w) (by decide +kernel) (Nat.le_of_ble_eq_true rfl) ?_
  show Ex G 5 0 mX12_doDrop 0 [some (.ref 115), some (.int (nI i)), none, none] [] w _
  refine ex_s (fun _ => ev_aload_n dX12_doDrop_0 rfl) ?_
  refine ex_s (fun _ => ev_iload_n dX12_doDrop_1 rfl) ?_
  refine ex_s (fun _ => ev_callV kX12_141 co115 (qX12_isRiver_y hS0 hi) dX12_doDrop_2 rfl (by decide) (by decide) rfl) ?_
  refine ex_s (fun _ => ev_if_ne_t (tgt := 14) dX12_doDrop_5 (by decide) (by decide)) ?_
  refine ex_s (fun _ => ev_aload_n dX12_doDrop_14 rfl) ?_
  refine ex_s (fun _ => ev_getR fX12_9 dX12_doDrop_15 (by decide) sh115 rfl) ?_
  refine ex_s (fun _ => ev_iconst dX12_doDrop_18 ic0) ?_
  refine ex_s (fun _ => ev_iaload dX12_doDrop_19 rfl (by omega) (by decide) sh116) ?_
  refine ex_s (fun _ => ev_top q0) ?_
  refine ex_s (fun _ => ev_iconst dX12_doDrop_20 ic1) ?_
  refine ex_s (fun _ => ev_isub dX12_doDrop_21) ?_
  first | refine ex_s (fun _ => ev_top (pk_sub (by omega))) ?_ | skip
  refine ex_s (fun _ => ev_ist2 dX12_doDrop_22 (by decide) rfl) ?_
  refine ex_s (fun _ => ev_bipush (v := nI 83) dX12_doDrop_23 (by decide)) ?_
  refine ex_s (fun _ => ev_bipush (v := nI 15) dX12_doDrop_25 (by decide)) ?_
  refine ex_s (fun _ => ev_iload_n dX12_doDrop_27 rfl) ?_
  refine ex_s (fun _ => ev_imul dX12_doDrop_28) ?_
  first | refine ex_s (fun _ => ev_top (pk_mul _ _)) ?_ | skip
  refine ex_s (fun _ => ev_iadd dX12_doDrop_29) ?_
  first | refine ex_s (fun _ => ev_top (nI_add _ _)) ?_ | skip
  refine ex_s (fun _ => ev_ist3 dX12_doDrop_30 (by decide) rfl) ?_
  refine ex_s (fun _ => ev_aload_n dX12_doDrop_31 rfl) ?_
  refine ex_s (fun _ => ev_getR fX12_9 dX12_doDrop_32 (by decide) sh115 rfl) ?_
  refine ex_s (fun _ => ev_iload_n dX12_doDrop_35 rfl) ?_
  refine ex_s (fun _ => ev_bipush (v := nI 15) dX12_doDrop_36 (by decide)) ?_
  refine ex_s (fun _ => ev_iadd dX12_doDrop_38) ?_
  first | refine ex_s (fun _ => ev_top (nI_add _ _)) ?_ | skip
  refine ex_s (fun _ => ev_aload_n dX12_doDrop_39 rfl) ?_
  refine ex_s (fun _ => ev_getR fX12_9 dX12_doDrop_40 (by decide) sh115 rfl) ?_
  refine ex_s (fun _ => ev_iload_n dX12_doDrop_43 rfl) ?_
  refine ex_s (fun _ => ev_bipush (v := nI 15) dX12_doDrop_44 (by decide)) ?_
  refine ex_s (fun _ => ev_iload_n dX12_doDrop_46 rfl) ?_
  refine ex_s (fun _ => ev_iload_n dX12_doDrop_47 rfl) ?_
  refine ex_s (fun _ => ev_isub dX12_doDrop_48) ?_
  first | refine ex_s (fun _ => ev_top (pk_sub (by omega))) ?_ | skip
  refine ex_s (fun _ => ev_imul dX12_doDrop_49) ?_
  first | refine ex_s (fun _ => ev_top (pk_mul _ _)) ?_ | skip
  refine ex_s (fun _ => ev_copy aX12_46 dX12_doDrop_50 rfl rfl rfl (by decide) (by decide) sh116 sh116 (by omega) (by omega) rfl) ?_
  refine ex_s (fun _ => ev_aload_n dX12_doDrop_53 rfl) ?_
  refine ex_s (fun _ => ev_getR fX12_9 dX12_doDrop_54 (by decide) sh115 rfl) ?_
  refine ex_s (fun _ => ev_iconst dX12_doDrop_57 ic0) ?_
  refine ex_s (fun _ => ev_iload_n dX12_doDrop_58 rfl) ?_
  refine ex_s (fun _ => ev_iastore dX12_doDrop_59 rfl (by omega) rfl (by decide) sh116) ?_
  refine ex_s (fun _ => ev_iload_n dX12_doDrop_60 rfl) ?_
  exact ⟨_, _, (by exact pDo_y rfl ⟨rA_drop hS0.1 hS0.2 hi, ok_rr hS0.2 hi⟩ (frG_cs (frG_cs frG_rf (by decide) _) (by decide) _) rfl), ev_iret dX12_doDrop_61 rfl rfl rfl rfl⟩
set_option maxRecDepth 4000 in
theorem qX12_doDragon_n {G : GX} {w : WS} {S : ST} (hS : mR S w) {x y : Int32} (hx : out_ 64 x) : Big G 5 0 mX12_doDragon [.ref 115, .int x, .int y] w (.inl (some (.int (nI 0)))) (wT w 1) := by
  refine big_of (by decide +kernel) (Nat.le_of_ble_eq_true rfl) ?_
  have hS0 := hS
  obtain ⟨⟨q0, q1, ⟨m0, m1, m2, m3, m4⟩, qr, qc, qv, qd⟩, hk1, hk2, hk3, hk4⟩ := hS
  have h4 := hk2.1
  have h5 := hk3.1
  show Ev G 5 0 mX12_doDragon 0 [some (.ref 115), some (.int x), some (.int y), none, none, none] [] w _
  refine ev_aload_n dX12_doDragon_0 rfl ?_
  refine ev_getR fX12_9 dX12_doDragon_1 (by decide) sh115 rfl ?_
  refine ev_iconst dX12_doDragon_4 ic1 ?_
  refine ev_iaload dX12_doDragon_5 rfl (by omega) (by decide) sh116 ?_
  refine ev_ist3 dX12_doDragon_6 (by decide) rfl ?_
  refine ev_iload_n dX12_doDragon_7 rfl ?_
  refine ev_callS kX12_78 (qX12_isCell_n hx) dX12_doDragon_8 rfl (by decide) (by decide) rfl ?_
  refine ev_if_ne_f (tgt := 20) dX12_doDragon_11 (by decide) rfl ?_
  refine ev_aload_n dX12_doDragon_14 rfl ?_
  refine ev_iconst dX12_doDragon_15 ic1 ?_
  refine ev_callV kX12_82 co115 qX12_fails dX12_doDragon_16 rfl (by decide) (by decide) rfl ?_
  exact ev_iret dX12_doDragon_19 rfl rfl rfl rfl
set_option maxRecDepth 4000 in
theorem qX12_doDragon_m {G : GX} {w : WS} {S : ST} (hS : mR S w) {c : Nat} {y : Int32} (hc : c < 64) (hy : y < nI 1 ∨ nI 50 < y) : Big G 5 0 mX12_doDragon [.ref 115, .int (nI c), .int y] w (.inl (some (.int (nI 0)))) (wT w 2) := by
  refine big_of (by decide +kernel) (Nat.le_of_ble_eq_true rfl) ?_
  have hS0 := hS
  obtain ⟨⟨q0, q1, ⟨m0, m1, m2, m3, m4⟩, qr, qc, qv, qd⟩, hk1, hk2, hk3, hk4⟩ := hS
  have h4 := hk2.1
  have h5 := hk3.1
  show Ev G 5 0 mX12_doDragon 0 [some (.ref 115), some (.int (nI c)), some (.int y), none, none, none] [] w _
  refine ev_aload_n dX12_doDragon_0 rfl ?_
  refine ev_getR fX12_9 dX12_doDragon_1 (by decide) sh115 rfl ?_
  refine ev_iconst dX12_doDragon_4 ic1 ?_
  refine ev_iaload dX12_doDragon_5 rfl (by omega) (by decide) sh116 ?_
  refine ev_ist3 dX12_doDragon_6 (by decide) rfl ?_
  refine ev_iload_n dX12_doDragon_7 rfl ?_
  refine ev_callS kX12_78 (qX12_isCell_y hc) dX12_doDragon_8 rfl (by decide) (by decide) rfl ?_
  refine ev_if_ne_t (tgt := 20) dX12_doDragon_11 (by decide) (by decide) ?_
  refine ev_iload_n dX12_doDragon_20 rfl ?_
  refine ev_iconst dX12_doDragon_21 ic1 ?_
  refine ev_bipush (v := nI 50) dX12_doDragon_22 (by decide) ?_
  refine ev_callS kX12_63 (qX12_in_f hy) dX12_doDragon_24 rfl (by decide) (by decide) rfl ?_
  refine ev_if_ne_f (tgt := 36) dX12_doDragon_27 (by decide) rfl ?_
  refine ev_aload_n dX12_doDragon_30 rfl ?_
  refine ev_iconst dX12_doDragon_31 ic2 ?_
  refine ev_callV kX12_82 co115 qX12_fails dX12_doDragon_32 rfl (by decide) (by decide) rfl ?_
  exact ev_iret dX12_doDragon_35 rfl rfl rfl rfl
set_option maxRecDepth 4000 in
theorem qX12_doDragon {G : GX} {w : WS} {S : ST} (hS : mR S w) {c p : Nat} (hc : c < 64) (h1 : 1 ≤ p) (h50 : p ≤ 50) : ∃ o w2, (pDo S (.inr (.inr (.inr (.inr (.inr (.inl (c, p))))))) 3 w o w2) ∧ Big G 5 0 mX12_doDragon [.ref 115, .int (nI c), .int (nI p)] w o w2 := by
  have hS0 := hS
  obtain ⟨⟨q0, q1, ⟨m0, m1, m2, m3, m4⟩, qr, qc, qv, qd⟩, hk1, hk2, hk3, hk4⟩ := hS
  have h4 := hk2.1
  have h5 := hk3.1
  refine bx_of (P := pDo S (.inr (.inr (.inr (.inr (.inr (.inl (c, p))))))) 3 w) (by decide +kernel) (Nat.le_of_ble_eq_true rfl) ?_
  show Ex G 5 0 mX12_doDragon 0 [some (.ref 115), some (.int (nI c)), some (.int (nI p)), none, none, none] [] w _
  refine ex_s (fun _ => ev_aload_n dX12_doDragon_0 rfl) ?_
  refine ex_s (fun _ => ev_getR fX12_9 dX12_doDragon_1 (by decide) sh115 rfl) ?_
  refine ex_s (fun _ => ev_iconst dX12_doDragon_4 ic1) ?_
  refine ex_s (fun _ => ev_iaload dX12_doDragon_5 rfl (by omega) (by decide) sh116) ?_
  refine ex_s (fun _ => ev_top q1) ?_
  refine ex_s (fun _ => ev_ist3 dX12_doDragon_6 (by decide) rfl) ?_
  refine ex_s (fun _ => ev_iload_n dX12_doDragon_7 rfl) ?_
  refine ex_s (fun _ => ev_callS kX12_78 (qX12_isCell_y hc) dX12_doDragon_8 rfl (by decide) (by decide) rfl) ?_
  refine ex_s (fun _ => ev_if_ne_t (tgt := 20) dX12_doDragon_11 (by decide) (by decide)) ?_
  refine ex_s (fun _ => ev_iload_n dX12_doDragon_20 rfl) ?_
  refine ex_s (fun _ => ev_iconst dX12_doDragon_21 ic1) ?_
  refine ex_s (fun _ => ev_bipush (v := nI 50) dX12_doDragon_22 (by decide)) ?_
  refine ex_s (fun _ => ev_callS kX12_63 (qX12_in_t (nI_le h1 (by omega)) (nI_le h50 (by decide))) dX12_doDragon_24 rfl (by decide) (by decide) rfl) ?_
  refine ex_s (fun _ => ev_if_ne_t (tgt := 36) dX12_doDragon_27 (by decide) (by decide)) ?_
  refine ex_s (fun _ => ev_aload_n dX12_doDragon_36 rfl) ?_
  refine ex_s (fun _ => ev_iload_n dX12_doDragon_37 rfl) ?_
  refine ex_s (fun _ => ev_callV kX12_67 co115 (qX12_at hS0 hc) dX12_doDragon_38 rfl (by decide) (by decide) rfl) ?_
  refine ex_s (fun _ => ev_ist4 dX12_doDragon_41 (by decide) rfl) ?_
  refine ex_s (fun _ => ev_iload dX12_doDragon_43 rfl) ?_
  refine ex_bp (fun _ => ev_if_ge (tgt := 56) dX12_doDragon_45 (by decide)) (fun hc45 => ?_) (fun hc45 => ?_)
  · have e45 : ¬ sO S c = -1 := fun z => absurd ((sO_lt hS0.2 hc).mpr z) (Int32.not_lt.mpr hc45)
    obtain ⟨a, ha, hoa, hon⟩ := ow_ hS0.2 hc e45
    rw [hoa]
    refine ex_s (fun _ => ev_aload_n dX12_doDragon_56 rfl) ?_
    refine ex_s (fun _ => ev_iload_n dX12_doDragon_57 rfl) ?_
    refine ex_s (fun _ => ev_callV kX12_71 co115 (qX12_dragonOn hS0 hc) dX12_doDragon_58 rfl (by decide) (by decide) rfl) ?_
    have ob : ∀ k, dOn S c = some k → k < 2 ^ 31 := fun k hk => by have := (dOn_lt hk).1; omega
    refine ex_bp (fun _ => ev_if_lt (tgt := 77) dX12_doDragon_61 (by decide)) (fun hc61 => ?_) (fun hc61 => ?_)
    · have e61 : ¬ (dOn S c).isSome = true := by rw [(oI_lt ob).mp hc61]; decide
      refine ex_s (fun _ => ev_iload_n dX12_doDragon_77 rfl) ?_
      refine ex_s (fun _ => ev_iconst dX12_doDragon_78 ic5) ?_
      refine ex_bn (fun _ => ev_icmp_ne (tgt := 91) dX12_doDragon_79 (by decide)) (fun hc79 => ?_) (fun hc79 => ?_)
      · have e79 : ¬ 5 ≤ nD S := fun z => hc79 (by rw [show nD S = 5 by omega])
        refine ex_s (fun _ => ev_aload_n dX12_doDragon_91 rfl) ?_
        refine ex_s (fun _ => ev_getR fX12_9 dX12_doDragon_92 (by decide) sh115 rfl) ?_
        refine ex_s (fun _ => ev_bipush (v := nI 7) dX12_doDragon_95 (by decide)) ?_
        refine ex_s (fun _ => ev_iconst dX12_doDragon_97 ic3) ?_
        refine ex_s (fun _ => ev_iload dX12_doDragon_98 rfl) ?_
        refine ex_s (fun _ => ev_imul dX12_doDragon_100) ?_
        first | refine ex_s (fun _ => ev_top (pk_mul _ _)) ?_ | skip
        refine ex_s (fun _ => ev_iadd dX12_doDragon_101) ?_
        first | refine ex_s (fun _ => ev_top (nI_add _ _)) ?_ | skip
        refine ex_s (fun _ => ev_iaload dX12_doDragon_102 rfl (by omega) (by decide) sh116) ?_
        refine ex_s (fun _ => ev_top (qr a ha).1) ?_
        refine ex_s (fun _ => ev_ist5 dX12_doDragon_103 (by decide) rfl) ?_
        refine ex_s (fun _ => ev_iload_n dX12_doDragon_105 rfl) ?_
        refine ex_s (fun _ => ev_iload dX12_doDragon_106 rfl) ?_
        refine ex_bp (fun _ => ev_icmp_le (tgt := 121) dX12_doDragon_108 (by decide)) (fun hc108 => ?_) (fun hc108 => ?_)
        · have e108 : ¬ sC S (oN_ (sO S c)) < nI p := by rw [hon]; exact Int32.not_lt.mpr hc108
          refine ex_s (fun _ => ev_aload_n dX12_doDragon_121 rfl) ?_
          refine ex_s (fun _ => ev_getR fX12_9 dX12_doDragon_122 (by decide) sh115 rfl) ?_
          refine ex_s (fun _ => ev_bipush (v := nI 7) dX12_doDragon_125 (by decide)) ?_
          refine ex_s (fun _ => ev_iconst dX12_doDragon_127 ic3) ?_
          refine ex_s (fun _ => ev_iload dX12_doDragon_128 rfl) ?_
          refine ex_s (fun _ => ev_imul dX12_doDragon_130) ?_
          first | refine ex_s (fun _ => ev_top (pk_mul _ _)) ?_ | skip
          refine ex_s (fun _ => ev_iadd dX12_doDragon_131) ?_
          first | refine ex_s (fun _ => ev_top (nI_add _ _)) ?_ | skip
          refine ex_s (fun _ => ev_iload dX12_doDragon_132 rfl) ?_
          refine ex_s (fun _ => ev_iload_n dX12_doDragon_134 rfl) ?_
          refine ex_s (fun _ => ev_isub dX12_doDragon_135) ?_
          refine ex_s (fun _ => ev_top rfl) ?_
          refine ex_s (fun _ => ev_iastore dX12_doDragon_136 rfl (by omega) rfl (by decide) sh116) ?_
          refine ex_s (fun _ => ev_aload_n dX12_doDragon_137 rfl) ?_
          refine ex_s (fun _ => ev_getR fX12_9 dX12_doDragon_138 (by decide) sh115 rfl) ?_
          refine ex_s (fun _ => ev_sipush (v := nI 143) dX12_doDragon_141 (by decide)) ?_
          refine ex_s (fun _ => ev_iconst dX12_doDragon_144 ic3) ?_
          refine ex_s (fun _ => ev_iload_n dX12_doDragon_145 rfl) ?_
          refine ex_s (fun _ => ev_imul dX12_doDragon_146) ?_
          first | refine ex_s (fun _ => ev_top (pk_mul _ _)) ?_ | skip
          refine ex_s (fun _ => ev_iadd dX12_doDragon_147) ?_
          first | refine ex_s (fun _ => ev_top (nI_add _ _)) ?_ | skip
          refine ex_s (fun _ => ev_iload_n dX12_doDragon_148 rfl) ?_
          refine ex_s (fun _ => ev_iastore dX12_doDragon_149 rfl (by omega) rfl (by decide) sh116) ?_
          refine ex_s (fun _ => ev_aload_n dX12_doDragon_150 rfl) ?_
          refine ex_s (fun _ => ev_getR fX12_9 dX12_doDragon_151 (by decide) sh115 rfl) ?_
          refine ex_s (fun _ => ev_sipush (v := nI 143) dX12_doDragon_154 (by decide)) ?_
          refine ex_s (fun _ => ev_iconst dX12_doDragon_157 ic3) ?_
          refine ex_s (fun _ => ev_iload_n dX12_doDragon_158 rfl) ?_
          refine ex_s (fun _ => ev_imul dX12_doDragon_159) ?_
          first | refine ex_s (fun _ => ev_top (pk_mul _ _)) ?_ | skip
          refine ex_s (fun _ => ev_iadd dX12_doDragon_160) ?_
          first | refine ex_s (fun _ => ev_top (nI_add _ _)) ?_ | skip
          refine ex_s (fun _ => ev_iconst dX12_doDragon_161 ic1) ?_
          refine ex_s (fun _ => ev_iadd dX12_doDragon_162) ?_
          first | refine ex_s (fun _ => ev_top (nI_add _ _)) ?_ | skip
          refine ex_s (fun _ => ev_iload_n dX12_doDragon_163 rfl) ?_
          refine ex_s (fun _ => ev_iastore dX12_doDragon_164 rfl (by omega) rfl (by decide) sh116) ?_
          refine ex_s (fun _ => ev_aload_n dX12_doDragon_165 rfl) ?_
          refine ex_s (fun _ => ev_getR fX12_9 dX12_doDragon_166 (by decide) sh115 rfl) ?_
          refine ex_s (fun _ => ev_sipush (v := nI 143) dX12_doDragon_169 (by decide)) ?_
          refine ex_s (fun _ => ev_iconst dX12_doDragon_172 ic3) ?_
          refine ex_s (fun _ => ev_iload_n dX12_doDragon_173 rfl) ?_
          refine ex_s (fun _ => ev_imul dX12_doDragon_174) ?_
          first | refine ex_s (fun _ => ev_top (pk_mul _ _)) ?_ | skip
          refine ex_s (fun _ => ev_iadd dX12_doDragon_175) ?_
          first | refine ex_s (fun _ => ev_top (nI_add _ _)) ?_ | skip
          refine ex_s (fun _ => ev_iconst dX12_doDragon_176 ic2) ?_
          refine ex_s (fun _ => ev_iadd dX12_doDragon_177) ?_
          first | refine ex_s (fun _ => ev_top (nI_add _ _)) ?_ | skip
          refine ex_s (fun _ => ev_iload dX12_doDragon_178 rfl) ?_
          refine ex_s (fun _ => ev_iastore dX12_doDragon_180 rfl (by omega) rfl (by decide) sh116) ?_
          refine ex_s (fun _ => ev_aload_n dX12_doDragon_181 rfl) ?_
          refine ex_s (fun _ => ev_getR fX12_9 dX12_doDragon_182 (by decide) sh115 rfl) ?_
          refine ex_s (fun _ => ev_iconst dX12_doDragon_185 ic1) ?_
          refine ex_s (fun _ => ev_dup2 dX12_doDragon_186 rfl rfl) ?_
          refine ex_s (fun _ => ev_iaload dX12_doDragon_187 rfl (by omega) (by decide) sh116) ?_
          refine ex_s (fun _ => ev_top (y := nI (nD S)) (show upd (upd (upd (upd (w.1 116) (7 + 3 * a) (sC S a - nI p)) (143 + 3 * nD S) (nI c)) (143 + 3 * nD S + 1) (nI p)) (143 + 3 * nD S + 2) (nI a) 1 = _ by rw [pk_un (by omega), pk_un (by omega), pk_un (by omega), pk_un (by omega)]; exact q1)) ?_
          refine ex_s (fun _ => ev_iconst dX12_doDragon_188 ic1) ?_
          refine ex_s (fun _ => ev_iadd dX12_doDragon_189) ?_
          first | refine ex_s (fun _ => ev_top (nI_add _ _)) ?_ | skip
          refine ex_s (fun _ => ev_iastore dX12_doDragon_190 rfl (by omega) rfl (by decide) sh116) ?_
          refine ex_s (fun _ => ev_iload_n dX12_doDragon_191 rfl) ?_
          exact ⟨_, _, (by exact pDo_y (by show drS S c p = _; unfold drS; rw [if_neg e45, if_neg e61, if_neg e79, if_neg e108]) (by rw [show cdo S (.inr (.inr (.inr (.inr (.inr (.inl (c, p))))))) = sAD S c p a by rw [← hon]; rfl]; exact ⟨rA_dragon hS0.1 hS0.2 (by omega) ha, ok_ad hS0.2 (by omega) hc h1 h50 ha (by cases e : dOn S c with | none => rfl | some y => rw [e] at e61; exact absurd rfl e61)⟩) (frG_cs (frG_cs (frG_cs (frG_cs (frG_cs frG_rf (by decide) _) (by decide) _) (by decide) _) (by decide) _) (by decide) _) rfl), ev_iret dX12_doDragon_192 rfl rfl rfl rfl⟩
        · have e108 : sC S (oN_ (sO S c)) < nI p := by rw [hon]; exact Int32.not_le.mp hc108
          refine ex_s (fun _ => ev_aload_n dX12_doDragon_111 rfl) ?_
          refine ex_s (fun _ => ev_iconst dX12_doDragon_112 ic3) ?_
          refine ex_s (fun _ => ev_bipush (v := nI 9) dX12_doDragon_113 (by decide)) ?_
          refine ex_s (fun _ => ev_iload dX12_doDragon_115 rfl) ?_
          refine ex_s (fun _ => ev_callV kX12_85 co115 (qX12_refuse (k := 3)) dX12_doDragon_117 rfl (by decide) (by decide) rfl) ?_
          exact ⟨_, _, (by exact pDo_n1 hS0 frG_rf (g := 9) (by show drS S c p = _; unfold drS; rw [if_neg e45, if_neg e61, if_neg e79, if_pos e108]) (by decide) (by decide) (by decide) (show sC S a = sC S (oN_ (sO S c)) by rw [hon])), ev_iret dX12_doDragon_120 rfl rfl rfl rfl⟩
      · have e79 : 5 ≤ nD S := by have := nI_inj (by omega) (by decide) hc79; omega
        refine ex_s (fun _ => ev_aload_n dX12_doDragon_82 rfl) ?_
        refine ex_s (fun _ => ev_iconst dX12_doDragon_83 ic3) ?_
        refine ex_s (fun _ => ev_bipush (v := nI 6) dX12_doDragon_84 (by decide)) ?_
        refine ex_s (fun _ => ev_iconst dX12_doDragon_86 ic5) ?_
        refine ex_s (fun _ => ev_callV kX12_85 co115 (qX12_refuse (k := 3)) dX12_doDragon_87 rfl (by decide) (by decide) rfl) ?_
        exact ⟨_, _, (by exact pDo_n1 hS0 frG_rf (g := 6) (by show drS S c p = _; unfold drS; rw [if_neg e45, if_neg e61, if_pos e79]) (by decide) (by decide) (by decide) rfl), ev_iret dX12_doDragon_90 rfl rfl rfl rfl⟩
    · have e61 : (dOn S c).isSome = true := by
        cases e : dOn S c with
        | none => exact absurd ((oI_lt ob).mpr e) hc61
        | some y => rfl
      refine ex_s (fun _ => ev_aload_n dX12_doDragon_64 rfl) ?_
      refine ex_s (fun _ => ev_iconst dX12_doDragon_65 ic3) ?_
      refine ex_s (fun _ => ev_bipush (v := nI 8) dX12_doDragon_66 (by decide)) ?_
      refine ex_s (fun _ => ev_aload_n dX12_doDragon_68 rfl) ?_
      refine ex_s (fun _ => ev_iload_n dX12_doDragon_69 rfl) ?_
      refine ex_s (fun _ => ev_callV kX12_71 co115 (qX12_dragonOn hS0 hc) dX12_doDragon_70 rfl (by decide) (by decide) rfl) ?_
      refine ex_s (fun _ => ev_callV kX12_85 co115 (qX12_refuse (k := 3)) dX12_doDragon_73 rfl (by decide) (by decide) rfl) ?_
      exact ⟨_, _, (by exact pDo_n1 hS0 frG_rf (g := 8) (by show drS S c p = _; unfold drS; rw [if_neg e45, if_pos e61]) (by decide) (by decide) (by decide) rfl), ev_iret dX12_doDragon_76 rfl rfl rfl rfl⟩
  · have e45 : sO S c = -1 := (sO_lt hS0.2 hc).mp (Int32.not_le.mp hc45)
    refine ex_s (fun _ => ev_aload_n dX12_doDragon_48 rfl) ?_
    refine ex_s (fun _ => ev_iconst dX12_doDragon_49 ic3) ?_
    refine ex_s (fun _ => ev_iconst dX12_doDragon_50 ic3) ?_
    refine ex_s (fun _ => ev_iload_n dX12_doDragon_51 rfl) ?_
    refine ex_s (fun _ => ev_callV kX12_85 co115 (qX12_refuse (k := 3)) dX12_doDragon_52 rfl (by decide) (by decide) rfl) ?_
    exact ⟨_, _, (by exact pDo_n1 hS0 frG_rf (g := 3) (by show drS S c p = _; unfold drS; rw [if_pos e45]) (by decide) (by decide) (by decide) rfl), ev_iret dX12_doDragon_55 rfl rfl rfl rfl⟩
set_option maxRecDepth 4000 in
theorem qX12_doScare_n {G : GX} {w : WS} {S : ST} (hS : mR S w) {x : Int32} (hx : out_ (nD S) x) : Big G 5 0 mX12_doScare [.ref 115, .int x] w (.inl (some (.int (nI 0)))) (wT w 1) := by
  refine big_of (by decide +kernel) (Nat.le_of_ble_eq_true rfl) ?_
  show Ev G 5 0 mX12_doScare 0 [some (.ref 115), some (.int x), none] [] w _
  refine ev_aload_n dX12_doScare_0 rfl ?_
  refine ev_iload_n dX12_doScare_1 rfl ?_
  refine ev_callV kX12_150 co115 (qX12_isDragon_n hS hx) dX12_doScare_2 rfl (by decide) (by decide) rfl ?_
  refine ev_if_ne_f (tgt := 14) dX12_doScare_5 (by decide) rfl ?_
  refine ev_aload_n dX12_doScare_8 rfl ?_
  refine ev_iconst dX12_doScare_9 ic1 ?_
  refine ev_callV kX12_82 co115 qX12_fails dX12_doScare_10 rfl (by decide) (by decide) rfl ?_
  exact ev_iret dX12_doScare_13 rfl rfl rfl rfl
set_option maxRecDepth 4000 in
theorem qX12_doScare {G : GX} {w : WS} {S : ST} (hS : mR S w) {i : Nat} (hi : i < nD S) : ∃ o w2, (pDo S (.inr (.inr (.inr (.inr (.inr (.inr i)))))) 9 w o w2) ∧ Big G 5 0 mX12_doScare [.ref 115, .int (nI i)] w o w2 := by
  have hS0 := hS
  obtain ⟨⟨q0, q1, ⟨m0, m1, m2, m3, m4⟩, qr, qc, qv, qd⟩, hk1, hk2, hk3, hk4⟩ := hS
  have h4 := hk2.1
  have h5 := hk3.1
  refine bx_of (P := pDo S (.inr (.inr (.inr (.inr (.inr (.inr i)))))) 9 w) (by decide +kernel) (Nat.le_of_ble_eq_true rfl) ?_
  show Ex G 5 0 mX12_doScare 0 [some (.ref 115), some (.int (nI i)), none] [] w _
  refine ex_s (fun _ => ev_aload_n dX12_doScare_0 rfl) ?_
  refine ex_s (fun _ => ev_iload_n dX12_doScare_1 rfl) ?_
  refine ex_s (fun _ => ev_callV kX12_150 co115 (qX12_isDragon_y hS0 hi) dX12_doScare_2 rfl (by decide) (by decide) rfl) ?_
  refine ex_s (fun _ => ev_if_ne_t (tgt := 14) dX12_doScare_5 (by decide) (by decide)) ?_
  refine ex_s (fun _ => ev_aload_n dX12_doScare_14 rfl) ?_
  refine ex_s (fun _ => ev_getR fX12_9 dX12_doScare_15 (by decide) sh115 rfl) ?_
  refine ex_s (fun _ => ev_sipush (v := nI 143) dX12_doScare_18 (by decide)) ?_
  refine ex_s (fun _ => ev_iconst dX12_doScare_21 ic3) ?_
  refine ex_s (fun _ => ev_iload_n dX12_doScare_22 rfl) ?_
  refine ex_s (fun _ => ev_imul dX12_doScare_23) ?_
  first | refine ex_s (fun _ => ev_top (pk_mul _ _)) ?_ | skip
  refine ex_s (fun _ => ev_iadd dX12_doScare_24) ?_
  first | refine ex_s (fun _ => ev_top (nI_add _ _)) ?_ | skip
  refine ex_s (fun _ => ev_iconst dX12_doScare_25 ic1) ?_
  refine ex_s (fun _ => ev_iadd dX12_doScare_26) ?_
  first | refine ex_s (fun _ => ev_top (nI_add _ _)) ?_ | skip
  refine ex_s (fun _ => ev_iaload dX12_doScare_27 rfl (by omega) (by decide) sh116) ?_
  refine ex_s (fun _ => ev_top (qd i hi).2.1) ?_
  refine ex_s (fun _ => ev_ist2 dX12_doScare_28 (by decide) rfl) ?_
  refine ex_s (fun _ => ev_aload_n dX12_doScare_29 rfl) ?_
  refine ex_s (fun _ => ev_iload_n dX12_doScare_30 rfl) ?_
  refine ex_s (fun _ => ev_callV kX12_74 co115 (qX12_takes hS0 hi) dX12_doScare_31 rfl (by decide) (by decide) rfl) ?_
  have m1_ := rA_take hS0.1 hS0.2 hi
  have k1_ := ok_rm hS0.2 hi
  refine ex_s (fun _ => ev_aload_n dX12_doScare_34 rfl) ?_
  refine ex_s (fun _ => ev_getR fX12_9 dX12_doScare_35 (by decide) sh115 rfl) ?_
  refine ex_s (fun _ => ev_iconst dX12_doScare_38 ic5) ?_
  refine ex_s (fun _ => ev_dup2 dX12_doScare_39 rfl rfl) ?_
  refine ex_s (fun _ => ev_iaload dX12_doScare_40 rfl (by omega) (by decide) sh116) ?_
  refine ex_s (fun _ => ev_top m1_.2.2.1.2.2.2.1) ?_
  refine ex_s (fun _ => ev_iconst dX12_doScare_41 ic1) ?_
  refine ex_s (fun _ => ev_iadd dX12_doScare_42) ?_
  refine ex_s (fun _ => ev_top rfl) ?_
  refine ex_s (fun _ => ev_iastore dX12_doScare_43 rfl (by omega) rfl (by decide) sh116) ?_
  have m2_ := rA_misc m1_ k1_ (j := 3) (by decide) (sM S 3 + nI 1)
  refine ex_s (fun _ => ev_aload_n dX12_doScare_44 rfl) ?_
  refine ex_s (fun _ => ev_getR fX12_9 dX12_doScare_45 (by decide) sh115 rfl) ?_
  refine ex_s (fun _ => ev_bipush (v := nI 6) dX12_doScare_48 (by decide)) ?_
  refine ex_s (fun _ => ev_dup2 dX12_doScare_50 rfl rfl) ?_
  refine ex_s (fun _ => ev_iaload dX12_doScare_51 rfl (by omega) (by decide) sh116) ?_
  refine ex_s (fun _ => ev_top m2_.2.2.1.2.2.2.2) ?_
  refine ex_s (fun _ => ev_iload_n dX12_doScare_52 rfl) ?_
  refine ex_s (fun _ => ev_iadd dX12_doScare_53) ?_
  refine ex_s (fun _ => ev_top rfl) ?_
  refine ex_s (fun _ => ev_iastore dX12_doScare_54 rfl (by omega) rfl (by decide) sh116) ?_
  have m3_ := rA_misc m2_ (S := pM (sRm S i) _) (ok_pM k1_ (by decide) _) (j := 4) (by decide) (sM S 4 + nI (dP S i))
  refine ex_s (fun _ => ev_iload_n dX12_doScare_55 rfl) ?_
  exact ⟨_, _, (by exact pDo_y rfl ⟨m3_, ok_sc hS0.2 hi⟩ (frG_cs (frG_cs (frG_cs frG_rf (by decide) _) (by decide) _) (by decide) _) rfl), ev_iret dX12_doScare_56 rfl rfl rfl rfl⟩
