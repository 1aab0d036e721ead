/-! the reference: texts read -/
def frQ (w x : WS) : Prop := frG [(115, 115), (124, 124)] w x ∧ ∀ j, j ≠ 14 → j ≠ 15 → j ≠ 18 → x.1 115 j = w.1 115 j
theorem frQ_rf {w : WS} : frQ w w := ⟨frG_rf, fun _ _ _ _ => rfl⟩
/-- the reader stands: whether wrong, where; how many orders; their rows -/
def RD (w : WS) (s : Nat × Nat) (m : Nat) (f : Nat → Int32) (x : WS) : Prop := x.1 115 14 = nI s.2 ∧ x.1 115 15 = nI s.1 ∧ x.1 115 18 = nI m ∧ x.1 124 = f ∧ frQ w x
theorem RD_14 {w x : WS} {s : Nat × Nat} {m : Nat} {f : Nat → Int32} (h : RD w s m f x) (p : Nat) : RD w (s.1, p) m f (cs_ x 115 (upd (x.1 115) 14 (nI p))) := ⟨rfl, h.2.1, h.2.2.1, h.2.2.2.1, frG_tr h.2.2.2.2.1 (frG_cs frG_rf (by decide) _), fun j a b c => (show upd (x.1 115) 14 _ j = _ from pk_un a).trans (h.2.2.2.2.2 j a b c)⟩
theorem RD_15 {w x : WS} {s : Nat × Nat} {m : Nat} {f : Nat → Int32} (h : RD w s m f x) (e : Nat) : RD w (e, s.2) m f (cs_ x 115 (upd (x.1 115) 15 (nI e))) := ⟨h.1, rfl, h.2.2.1, h.2.2.2.1, frG_tr h.2.2.2.2.1 (frG_cs frG_rf (by decide) _), fun j a b c => (show upd (x.1 115) 15 _ j = _ from pk_un b).trans (h.2.2.2.2.2 j a b c)⟩
theorem RD_18 {w x : WS} {s : Nat × Nat} {m : Nat} {f : Nat → Int32} (h : RD w s m f x) (k : Nat) : RD w s k f (cs_ x 115 (upd (x.1 115) 18 (nI k))) := ⟨h.1, h.2.1, rfl, h.2.2.2.1, frG_tr h.2.2.2.2.1 (frG_cs frG_rf (by decide) _), fun j a b c => (show upd (x.1 115) 18 _ j = _ from pk_un c).trans (h.2.2.2.2.2 j a b c)⟩
theorem RD_124 {w x : WS} {s : Nat × Nat} {m : Nat} {f : Nat → Int32} (h : RD w s m f x) (j : Nat) (v : Int32) : RD w s m (upd f j v) (cs_ x 124 (upd (x.1 124) j v)) := ⟨h.1, h.2.1, h.2.2.1, by rw [← h.2.2.2.1]; exact cs_same x 124 _, frG_tr h.2.2.2.2.1 (frG_cs frG_rf (by decide) _), fun j a b c => h.2.2.2.2.2 j a b c⟩
theorem RD_in {n : Nat} {t : Nat → Nat} {w x : WS} {s : Nat × Nat} {m : Nat} {f : Nat → Int32} (hi : inM n t w) (h : RD w s m f x) : inM n t x := ⟨(h.2.2.2.2.2 13 (by decide) (by decide) (by decide)).trans hi.1, hi.2.1, fun i h2 => by rw [frG_at h.2.2.2.2.1 (by decide)]; exact hi.2.2 i h2⟩
def hr (n : Nat) (t : Nat → Nat) (a b : Nat) (s : Nat × Nat) : Bool := decide (s.1 = 0 ∧ s.2 < n ∧ a ≤ t s.2 ∧ t s.2 ≤ b)
def sg (n : Nat) (t : Nat → Nat) (a b : Nat) (s : Nat × Nat) : Nat × Nat := if hr n t a b s = true then (0, s.2 + 1) else (1, s.2)
def sv (n : Nat) (t : Nat → Nat) (a b : Nat) (s : Nat × Nat) : Nat := if hr n t a b s = true then t s.2 - a else 0
def nu (n : Nat) (t : Nat → Nat) (s : Nat × Nat) : Nat × Nat := if hr n t 48 57 (sg n t 48 57 s) = true then sg n t 48 57 (sg n t 48 57 s) else sg n t 48 57 s
def nv (n : Nat) (t : Nat → Nat) (s : Nat × Nat) : Nat := if hr n t 48 57 (sg n t 48 57 s) = true then 10 * sv n t 48 57 s + sv n t 48 57 (sg n t 48 57 s) else sv n t 48 57 s
theorem sg_ok {n : Nat} {t : Nat → Nat} {a b : Nat} {s : Nat × Nat} (h : s.2 ≤ n) : (sg n t a b s).1 ≤ 1 ∧ (sg n t a b s).2 ≤ n := by
  unfold sg
  split
  · rename_i q
    have := (of_decide_eq_true q).2.1
    exact ⟨Nat.zero_le _, this⟩
  · exact ⟨Nat.le_refl _, h⟩
theorem nu_ok {n : Nat} {t : Nat → Nat} {s : Nat × Nat} (h : s.2 ≤ n) : (nu n t s).1 ≤ 1 ∧ (nu n t s).2 ≤ n := by
  unfold nu
  split
  · exact sg_ok (sg_ok h).2
  · exact sg_ok h
set_option maxRecDepth 4000 in
theorem qX12_isHere_1 {G : GX} {w x : WS} {n : Nat} {t : Nat → Nat} (hi : inM n t w) {s : Nat × Nat} {m : Nat} {f : Nat → Int32} (h : RD w s m f x) (he : s.1 ≤ 1) (hp : s.2 ≤ n) {a b : Nat} (h1 : s.1 = 1) : Big G 2 0 mX12_isHere [.ref 115, .int (nI a), .int (nI b)] x (.inl (some (.int (bI false)))) x := by
  refine big_of (by decide +kernel) (Nat.le_of_ble_eq_true rfl) ?_
  have hx := RD_in hi h
  have hn6 := hi.2.1
  show Ev G 2 0 mX12_isHere 0 [some (.ref 115), some (.int (nI a)), some (.int (nI b))] [] x _
  refine ev_aload_n dX12_isHere_0 rfl ?_
  refine ev_getI fX12_230 dX12_isHere_1 (by decide) sh115 rfl ?_
  refine ev_top (h.2.1.trans (by rw [h1]) : _ = nI 1) ?_
  refine ev_if_ne_t (tgt := 39) dX12_isHere_4 (by decide) (by decide) ?_
  refine ev_iconst dX12_isHere_39 ic0 ?_
  exact ev_iret dX12_isHere_40 rfl (by decide) rfl rfl
set_option maxRecDepth 4000 in
theorem qX12_isHere_2 {G : GX} {w x : WS} {n : Nat} {t : Nat → Nat} (hi : inM n t w) {s : Nat × Nat} {m : Nat} {f : Nat → Int32} (h : RD w s m f x) (he : s.1 ≤ 1) (hp : s.2 ≤ n) {a b : Nat} (h1 : s.1 = 0) (h2 : ¬ s.2 < n) : Big G 2 0 mX12_isHere [.ref 115, .int (nI a), .int (nI b)] x (.inl (some (.int (bI false)))) x := by
  refine big_of (by decide +kernel) (Nat.le_of_ble_eq_true rfl) ?_
  have hx := RD_in hi h
  have hn6 := hi.2.1
  show Ev G 2 0 mX12_isHere 0 [some (.ref 115), some (.int (nI a)), some (.int (nI b))] [] x _
  refine ev_aload_n dX12_isHere_0 rfl ?_
  refine ev_getI fX12_230 dX12_isHere_1 (by decide) sh115 rfl ?_
  refine ev_top (h.2.1.trans (by rw [h1]) : _ = nI 0) ?_
  refine ev_if_ne_f (tgt := 39) dX12_isHere_4 (by decide) rfl ?_
  refine ev_aload_n dX12_isHere_7 rfl ?_
  refine ev_getI fX12_233 dX12_isHere_8 (by decide) sh115 rfl ?_
  refine ev_top h.1 ?_
  refine ev_aload_n dX12_isHere_11 rfl ?_
  refine ev_getI fX12_135 dX12_isHere_12 (by decide) sh115 rfl ?_
  refine ev_top hx.1 ?_
  refine ev_icmp_ge_t (tgt := 39) dX12_isHere_15 (by decide) (nI_le (by omega) (by omega)) ?_
  refine ev_iconst dX12_isHere_39 ic0 ?_
  exact ev_iret dX12_isHere_40 rfl (by decide) rfl rfl
set_option maxRecDepth 4000 in
theorem qX12_isHere_3 {G : GX} {w x : WS} {n : Nat} {t : Nat → Nat} (hi : inM n t w) {s : Nat × Nat} {m : Nat} {f : Nat → Int32} (h : RD w s m f x) (he : s.1 ≤ 1) (hp : s.2 ≤ n) {a b : Nat} (h1 : s.1 = 0) (h2 : s.2 < n) (h3 : ¬ (a ≤ t s.2 ∧ t s.2 ≤ b)) (ha : a < 128) (hb : b < 128) : Big G 2 0 mX12_isHere [.ref 115, .int (nI a), .int (nI b)] x (.inl (some (.int (bI false)))) x := by
  refine big_of (by decide +kernel) (Nat.le_of_ble_eq_true rfl) ?_
  have hx := RD_in hi h
  have hn6 := hi.2.1
  show Ev G 2 0 mX12_isHere 0 [some (.ref 115), some (.int (nI a)), some (.int (nI b))] [] x _
  refine ev_aload_n dX12_isHere_0 rfl ?_
  refine ev_getI fX12_230 dX12_isHere_1 (by decide) sh115 rfl ?_
  refine ev_top (h.2.1.trans (by rw [h1]) : _ = nI 0) ?_
  refine ev_if_ne_f (tgt := 39) dX12_isHere_4 (by decide) rfl ?_
  refine ev_aload_n dX12_isHere_7 rfl ?_
  refine ev_getI fX12_233 dX12_isHere_8 (by decide) sh115 rfl ?_
  refine ev_top h.1 ?_
  refine ev_aload_n dX12_isHere_11 rfl ?_
  refine ev_getI fX12_135 dX12_isHere_12 (by decide) sh115 rfl ?_
  refine ev_top hx.1 ?_
  refine ev_icmp_ge_f (tgt := 39) dX12_isHere_15 (by decide) (nI_ge h2 (by omega)) ?_
  refine ev_aload_n dX12_isHere_18 rfl ?_
  refine ev_getR fX12_33 dX12_isHere_19 (by decide) sh115 rfl ?_
  refine ev_aload_n dX12_isHere_22 rfl ?_
  refine ev_getI fX12_233 dX12_isHere_23 (by decide) sh115 rfl ?_
  refine ev_top h.1 ?_
  have hc := hx.2.2 s.2 h2
  refine ev_caload dX12_isHere_26 rfl (by omega) (by decide) sh123 ?_
  refine ev_top hc.1 ?_
  refine ev_iload_n dX12_isHere_27 rfl ?_
  refine ev_iload_n dX12_isHere_28 rfl ?_
  refine ev_callS kX12_63 (qX12_in_f (by rcases Nat.lt_or_ge (t s.2) a with q | q; exact Or.inl (Int32.not_le.mp (nI_ge q (by omega))); exact Or.inr (Int32.not_le.mp (nI_ge (show b < t s.2 by omega) (by omega))))) dX12_isHere_29 rfl (by decide) (by decide) rfl ?_
  refine ev_if_eq_t (tgt := 39) dX12_isHere_32 (by decide) rfl ?_
  refine ev_iconst dX12_isHere_39 ic0 ?_
  exact ev_iret dX12_isHere_40 rfl (by decide) rfl rfl
set_option maxRecDepth 4000 in
theorem qX12_isHere_y {G : GX} {w x : WS} {n : Nat} {t : Nat → Nat} (hi : inM n t w) {s : Nat × Nat} {m : Nat} {f : Nat → Int32} (h : RD w s m f x) (he : s.1 ≤ 1) (hp : s.2 ≤ n) {a b : Nat} (h1 : s.1 = 0) (h2 : s.2 < n) (h3 : a ≤ t s.2) (h4 : t s.2 ≤ b) (hb : b < 128) : Big G 2 0 mX12_isHere [.ref 115, .int (nI a), .int (nI b)] x (.inl (some (.int (bI true)))) x := by
  refine big_of (by decide +kernel) (Nat.le_of_ble_eq_true rfl) ?_
  have hx := RD_in hi h
  have hn6 := hi.2.1
  show Ev G 2 0 mX12_isHere 0 [some (.ref 115), some (.int (nI a)), some (.int (nI b))] [] x _
  refine ev_aload_n dX12_isHere_0 rfl ?_
  refine ev_getI fX12_230 dX12_isHere_1 (by decide) sh115 rfl ?_
  refine ev_top (h.2.1.trans (by rw [h1]) : _ = nI 0) ?_
  refine ev_if_ne_f (tgt := 39) dX12_isHere_4 (by decide) rfl ?_
  refine ev_aload_n dX12_isHere_7 rfl ?_
  refine ev_getI fX12_233 dX12_isHere_8 (by decide) sh115 rfl ?_
  refine ev_top h.1 ?_
  refine ev_aload_n dX12_isHere_11 rfl ?_
  refine ev_getI fX12_135 dX12_isHere_12 (by decide) sh115 rfl ?_
  refine ev_top hx.1 ?_
  refine ev_icmp_ge_f (tgt := 39) dX12_isHere_15 (by decide) (nI_ge h2 (by omega)) ?_
  refine ev_aload_n dX12_isHere_18 rfl ?_
  refine ev_getR fX12_33 dX12_isHere_19 (by decide) sh115 rfl ?_
  refine ev_aload_n dX12_isHere_22 rfl ?_
  refine ev_getI fX12_233 dX12_isHere_23 (by decide) sh115 rfl ?_
  refine ev_top h.1 ?_
  have hc := hx.2.2 s.2 h2
  refine ev_caload dX12_isHere_26 rfl (by omega) (by decide) sh123 ?_
  refine ev_top hc.1 ?_
  refine ev_iload_n dX12_isHere_27 rfl ?_
  refine ev_iload_n dX12_isHere_28 rfl ?_
  refine ev_callS kX12_63 (qX12_in_t (nI_le h3 (by omega)) (nI_le h4 (by omega))) dX12_isHere_29 rfl (by decide) (by decide) rfl ?_
  refine ev_if_eq_f (tgt := 39) dX12_isHere_32 (by decide) (by decide) ?_
  refine ev_iconst dX12_isHere_35 ic1 ?_
  refine ev_goto (tgt := 40) dX12_isHere_36 (by decide) ?_
  exact ev_iret dX12_isHere_40 rfl (by decide) rfl rfl
theorem qX12_isHere {G : GX} {w x : WS} {n : Nat} {t : Nat → Nat} (hi : inM n t w) {s : Nat × Nat} {m : Nat} {f : Nat → Int32} (h : RD w s m f x) (he : s.1 ≤ 1) (hp : s.2 ≤ n) {a b : Nat} (ha : a < 128) (hb : b < 128) : Big G 2 0 mX12_isHere [.ref 115, .int (nI a), .int (nI b)] x (.inl (some (.int (bI (hr n t a b s))))) x := by
  unfold hr
  by_cases h1 : s.1 = 0
  · by_cases h2 : s.2 < n
    · by_cases h3 : a ≤ t s.2 ∧ t s.2 ≤ b
      · rw [decide_eq_true ⟨h1, h2, h3⟩]; exact qX12_isHere_y hi h he hp h1 h2 h3.1 h3.2 hb
      · rw [decide_eq_false (fun q => h3 q.2.2)]; exact qX12_isHere_3 hi h he hp h1 h2 h3 ha hb
    · rw [decide_eq_false (fun q => h2 q.2.1)]; exact qX12_isHere_2 hi h he hp h1 h2
  · rw [decide_eq_false (fun q => h1 q.1)]; exact qX12_isHere_1 hi h he hp (by omega)
def pRD (w : WS) (v : Nat) (s : Nat × Nat) (m : Nat) (f : Nat → Int32) : OT → WS → Prop := fun o w2 => o = .inl (some (.int (nI v))) ∧ RD w s m f w2
theorem pRD_of {w x : WS} {v u : Nat} {s s2 : Nat × Nat} {m : Nat} {f : Nat → Int32} (h : RD w s m f x) (hv : u = v) (hs : s = s2) : pRD w v s2 m f (.inl (some (.int (nI u)))) x := by
  subst hv hs; exact ⟨rfl, h⟩
set_option maxRecDepth 4000 in
theorem qX12_sign_1 {G : GX} {w x : WS} {n : Nat} {t : Nat → Nat} (hi : inM n t w) {s : Nat × Nat} {m : Nat} {f : Nat → Int32} (h : RD w s m f x) (he : s.1 ≤ 1) (hp : s.2 ≤ n) {a b : Nat} (ha : a < 128) (hb : b < 128) (h1 : s.1 = 1) (hh : hr n t a b s = false) : ∃ o w2, (pRD w (sv n t a b s) (sg n t a b s) (m) (f) o w2) ∧ Big G 3 0 mX12_sign [.ref 115, .int (nI a), .int (nI b)] x o w2 := by
  refine bx_of (P := fun o w2 => pRD w (sv n t a b s) (sg n t a b s) (m) (f) o w2) (by decide +kernel) (Nat.le_of_ble_eq_true rfl) ?_
  show Ex G 3 0 mX12_sign 0 [some (.ref 115), some (.int (nI a)), some (.int (nI b))] [] x _
  refine ex_s (fun _ => ev_aload_n dX12_sign_0 rfl) ?_
  refine ex_s (fun _ => ev_aload_n dX12_sign_1 rfl) ?_
  refine ex_s (fun _ => ev_getI fX12_230 dX12_sign_2 (by decide) sh115 rfl) ?_
  refine ex_s (fun _ => ev_top (h.2.1.trans (by rw [h1]) : _ = nI 1)) ?_
  refine ex_s (fun _ => ev_if_ne_t (tgt := 17) dX12_sign_5 (by decide) (by decide)) ?_
  refine ex_s (fun _ => ev_iconst dX12_sign_17 ic1) ?_
  refine ex_s (fun _ => ev_goto (tgt := 22) dX12_sign_18 (by decide)) ?_
  refine ex_s (fun _ => ev_put fX12_230 dX12_sign_22 rfl rfl (by decide) sh115 rfl) ?_
  refine ex_s (fun _ => ev_aload_n dX12_sign_25 rfl) ?_
  refine ex_s (fun _ => ev_getI fX12_230 dX12_sign_26 (by decide) sh115 rfl) ?_
  refine ex_s (fun _ => ev_top (y := nI 1) rfl) ?_
  refine ex_s (fun _ => ev_if_eq_f (tgt := 34) dX12_sign_29 (by decide) (by decide)) ?_
  refine ex_s (fun _ => ev_iconst dX12_sign_32 ic0) ?_
  exact ⟨_, _, (by exact pRD_of (RD_15 h 1) (by unfold sv; rw [if_neg (by rw [hh]; decide)]) (by unfold sg; rw [if_neg (by rw [hh]; decide)])), ev_iret dX12_sign_33 rfl rfl rfl rfl⟩
set_option maxRecDepth 4000 in
theorem qX12_sign_0 {G : GX} {w x : WS} {n : Nat} {t : Nat → Nat} (hi : inM n t w) {s : Nat × Nat} {m : Nat} {f : Nat → Int32} (h : RD w s m f x) (he : s.1 ≤ 1) (hp : s.2 ≤ n) {a b : Nat} (ha : a < 128) (hb : b < 128) (h1 : s.1 = 0) (hh : hr n t a b s = false) : ∃ o w2, (pRD w (sv n t a b s) (sg n t a b s) (m) (f) o w2) ∧ Big G 3 0 mX12_sign [.ref 115, .int (nI a), .int (nI b)] x o w2 := by
  refine bx_of (P := fun o w2 => pRD w (sv n t a b s) (sg n t a b s) (m) (f) o w2) (by decide +kernel) (Nat.le_of_ble_eq_true rfl) ?_
  show Ex G 3 0 mX12_sign 0 [some (.ref 115), some (.int (nI a)), some (.int (nI b))] [] x _
  refine ex_s (fun _ => ev_aload_n dX12_sign_0 rfl) ?_
  refine ex_s (fun _ => ev_aload_n dX12_sign_1 rfl) ?_
  refine ex_s (fun _ => ev_getI fX12_230 dX12_sign_2 (by decide) sh115 rfl) ?_
  refine ex_s (fun _ => ev_top (h.2.1.trans (by rw [h1]) : _ = nI 0)) ?_
  refine ex_s (fun _ => ev_if_ne_f (tgt := 17) dX12_sign_5 (by decide) rfl) ?_
  refine ex_s (fun _ => ev_aload_n dX12_sign_8 rfl) ?_
  refine ex_s (fun _ => ev_iload_n dX12_sign_9 rfl) ?_
  refine ex_s (fun _ => ev_iload_n dX12_sign_10 rfl) ?_
  refine ex_s (fun _ => ev_callV kX12_236 co115 (qX12_isHere hi h he hp ha hb) dX12_sign_11 rfl (by decide) (by decide) rfl) ?_
  rw [hh]
  refine ex_s (fun _ => ev_if_ne_f (tgt := 21) dX12_sign_14 (by decide) rfl) ?_
  refine ex_s (fun _ => ev_iconst dX12_sign_17 ic1) ?_
  refine ex_s (fun _ => ev_goto (tgt := 22) dX12_sign_18 (by decide)) ?_
  refine ex_s (fun _ => ev_put fX12_230 dX12_sign_22 rfl rfl (by decide) sh115 rfl) ?_
  refine ex_s (fun _ => ev_aload_n dX12_sign_25 rfl) ?_
  refine ex_s (fun _ => ev_getI fX12_230 dX12_sign_26 (by decide) sh115 rfl) ?_
  refine ex_s (fun _ => ev_top (y := nI 1) rfl) ?_
  refine ex_s (fun _ => ev_if_eq_f (tgt := 34) dX12_sign_29 (by decide) (by decide)) ?_
  refine ex_s (fun _ => ev_iconst dX12_sign_32 ic0) ?_
  exact ⟨_, _, (by exact pRD_of (RD_15 h 1) (by unfold sv; rw [if_neg (by rw [hh]; decide)]) (by unfold sg; rw [if_neg (by rw [hh]; decide)])), ev_iret dX12_sign_33 rfl rfl rfl rfl⟩
set_option maxRecDepth 4000 in
theorem qX12_sign_y {G : GX} {w x : WS} {n : Nat} {t : Nat → Nat} (hi : inM n t w) {s : Nat × Nat} {m : Nat} {f : Nat → Int32} (h : RD w s m f x) (he : s.1 ≤ 1) (hp : s.2 ≤ n) {a b : Nat} (ha : a < 128) (hb : b < 128) (h1 : s.1 = 0) (hh : hr n t a b s = true) : ∃ o w2, (pRD w (sv n t a b s) (sg n t a b s) (m) (f) o w2) ∧ Big G 3 0 mX12_sign [.ref 115, .int (nI a), .int (nI b)] x o w2 := by
  have hx := RD_in hi h
  have hn6 := hi.2.1
  have hq := of_decide_eq_true hh
  refine bx_of (P := fun o w2 => pRD w (sv n t a b s) (sg n t a b s) (m) (f) o w2) (by decide +kernel) (Nat.le_of_ble_eq_true rfl) ?_
  show Ex G 3 0 mX12_sign 0 [some (.ref 115), some (.int (nI a)), some (.int (nI b))] [] x _
  refine ex_s (fun _ => ev_aload_n dX12_sign_0 rfl) ?_
  refine ex_s (fun _ => ev_aload_n dX12_sign_1 rfl) ?_
  refine ex_s (fun _ => ev_getI fX12_230 dX12_sign_2 (by decide) sh115 rfl) ?_
  refine ex_s (fun _ => ev_top (h.2.1.trans (by rw [h1]) : _ = nI 0)) ?_
  refine ex_s (fun _ => ev_if_ne_f (tgt := 17) dX12_sign_5 (by decide) rfl) ?_
  refine ex_s (fun _ => ev_aload_n dX12_sign_8 rfl) ?_
  refine ex_s (fun _ => ev_iload_n dX12_sign_9 rfl) ?_
  refine ex_s (fun _ => ev_iload_n dX12_sign_10 rfl) ?_
  refine ex_s (fun _ => ev_callV kX12_236 co115 (qX12_isHere hi h he hp ha hb) dX12_sign_11 rfl (by decide) (by decide) rfl) ?_
  rw [hh]
  refine ex_s (fun _ => ev_if_ne_t (tgt := 21) dX12_sign_14 (by decide) (by decide)) ?_
  refine ex_s (fun _ => ev_iconst dX12_sign_21 ic0) ?_
  refine ex_s (fun _ => ev_put fX12_230 dX12_sign_22 rfl rfl (by decide) sh115 rfl) ?_
  refine ex_s (fun _ => ev_aload_n dX12_sign_25 rfl) ?_
  refine ex_s (fun _ => ev_getI fX12_230 dX12_sign_26 (by decide) sh115 rfl) ?_
  refine ex_s (fun _ => ev_top (y := nI 0) rfl) ?_
  refine ex_s (fun _ => ev_if_eq_t (tgt := 34) dX12_sign_29 (by decide) rfl) ?_
  refine ex_s (fun _ => ev_aload_n dX12_sign_34 rfl) ?_
  refine ex_s (fun _ => ev_dup dX12_sign_35 rfl) ?_
  refine ex_s (fun _ => ev_getI fX12_233 dX12_sign_36 (by decide) sh115 rfl) ?_
  refine ex_s (fun _ => ev_top h.1) ?_
  refine ex_s (fun _ => ev_iconst dX12_sign_39 ic1) ?_
  refine ex_s (fun _ => ev_iadd dX12_sign_40) ?_
  refine ex_s (fun _ => ev_top (nI_add _ _)) ?_
  refine ex_s (fun _ => ev_put fX12_233 dX12_sign_41 rfl rfl (by decide) sh115 rfl) ?_
  refine ex_s (fun _ => ev_aload_n dX12_sign_44 rfl) ?_
  refine ex_s (fun _ => ev_getR fX12_33 dX12_sign_45 (by decide) sh115 rfl) ?_
  refine ex_s (fun _ => ev_aload_n dX12_sign_48 rfl) ?_
  refine ex_s (fun _ => ev_getI fX12_233 dX12_sign_49 (by decide) sh115 rfl) ?_
  refine ex_s (fun _ => ev_top (y := nI (s.2 + 1)) rfl) ?_
  refine ex_s (fun _ => ev_iconst dX12_sign_52 ic1) ?_
  refine ex_s (fun _ => ev_isub dX12_sign_53) ?_
  refine ex_s (fun _ => ev_top (y := nI s.2) (pk_sub (Nat.succ_le_succ (Nat.zero_le _)))) ?_
  have hc := hx.2.2 s.2 hq.2.1
  refine ex_s (fun _ => ev_caload dX12_sign_54 rfl (by omega) (by decide) sh123) ?_
  refine ex_s (fun _ => ev_top hc.1) ?_
  refine ex_s (fun _ => ev_iload_n dX12_sign_55 rfl) ?_
  refine ex_s (fun _ => ev_isub dX12_sign_56) ?_
  first | refine ex_s (fun _ => ev_top (pk_sub (by omega))) ?_ | skip
  exact ⟨_, _, (by exact pRD_of (RD_14 (RD_15 h 0) (s.2 + 1)) (by unfold sv; rw [if_pos hh]) (by unfold sg; rw [if_pos hh])), ev_iret dX12_sign_57 rfl rfl rfl rfl⟩
theorem qX12_sign {G : GX} {w x : WS} {n : Nat} {t : Nat → Nat} (hi : inM n t w) {s : Nat × Nat} {m : Nat} {f : Nat → Int32} (h : RD w s m f x) (he : s.1 ≤ 1) (hp : s.2 ≤ n) {a b : Nat} (ha : a < 128) (hb : b < 128) : ∃ o w2, pRD w (sv n t a b s) (sg n t a b s) m f o w2 ∧ Big G 3 0 mX12_sign [.ref 115, .int (nI a), .int (nI b)] x o w2 := by
  rcases Nat.eq_zero_or_pos s.1 with h1 | h1
  · cases hh : hr n t a b s with
    | false => exact qX12_sign_0 hi h he hp ha hb h1 hh
    | true => exact qX12_sign_y hi h he hp ha hb h1 hh
  · refine qX12_sign_1 hi h he hp ha hb (by omega) (decide_eq_false (fun q => ?_))
    have := q.1
    omega
set_option maxRecDepth 4000 in
theorem qX12_number {G : GX} {w x : WS} {n : Nat} {t : Nat → Nat} (hi : inM n t w) {s : Nat × Nat} {m : Nat} {f : Nat → Int32} (h : RD w s m f x) (he : s.1 ≤ 1) (hp : s.2 ≤ n) : ∃ o w2, (pRD w (nv n t s) (nu n t s) (m) (f) o w2) ∧ Big G 4 0 mX12_number [.ref 115] x o w2 := by
  refine bx_of (P := fun o w2 => pRD w (nv n t s) (nu n t s) (m) (f) o w2) (by decide +kernel) (Nat.le_of_ble_eq_true rfl) ?_
  show Ex G 4 0 mX12_number 0 [some (.ref 115), none] [] x _
  refine ex_s (fun _ => ev_aload_n dX12_number_0 rfl) ?_
  refine ex_s (fun _ => ev_bipush (v := nI 48) dX12_number_1 (by decide)) ?_
  refine ex_s (fun _ => ev_bipush (v := nI 57) dX12_number_3 (by decide)) ?_
  obtain ⟨_, x1, ⟨rfl, h1⟩, hB1⟩ := qX12_sign (G := G) hi h he hp (a := 48) (b := 57) (by decide) (by decide)
  have k1 := sg_ok (t := t) (a := 48) (b := 57) hp
  refine ex_s (fun _ => ev_callV kX12_240 co115 hB1 dX12_number_5 rfl (by decide) (by decide) rfl) ?_
  refine ex_s (fun _ => ev_ist1 dX12_number_8 (by decide) rfl) ?_
  refine ex_s (fun _ => ev_aload_n dX12_number_9 rfl) ?_
  refine ex_s (fun _ => ev_bipush (v := nI 48) dX12_number_10 (by decide)) ?_
  refine ex_s (fun _ => ev_bipush (v := nI 57) dX12_number_12 (by decide)) ?_
  refine ex_s (fun _ => ev_callV kX12_236 co115 (qX12_isHere hi h1 k1.1 k1.2 (by decide) (by decide)) dX12_number_14 rfl (by decide) (by decide) rfl) ?_
  refine ex_b0 (fun _ => ev_ifb_eq (tgt := 36) dX12_number_17 (by decide)) (fun hc17 => ?_) (fun hc17 => ?_)
  · refine ex_s (fun _ => ev_iload_n dX12_number_36 rfl) ?_
    exact ⟨_, _, (by exact pRD_of h1 (by unfold nv; rw [hc17]; rfl) (by unfold nu; rw [hc17]; rfl)), ev_iret dX12_number_37 rfl rfl rfl rfl⟩
  · refine ex_s (fun _ => ev_bipush (v := nI 10) dX12_number_20 (by decide)) ?_
    refine ex_s (fun _ => ev_iload_n dX12_number_22 rfl) ?_
    refine ex_s (fun _ => ev_imul dX12_number_23) ?_
    first | refine ex_s (fun _ => ev_top (pk_mul _ _)) ?_ | skip
    refine ex_s (fun _ => ev_aload_n dX12_number_24 rfl) ?_
    refine ex_s (fun _ => ev_bipush (v := nI 48) dX12_number_25 (by decide)) ?_
    refine ex_s (fun _ => ev_bipush (v := nI 57) dX12_number_27 (by decide)) ?_
    obtain ⟨_, x2, ⟨rfl, h2⟩, hB2⟩ := qX12_sign (G := G) hi h1 k1.1 k1.2 (a := 48) (b := 57) (by decide) (by decide)
    refine ex_s (fun _ => ev_callV kX12_240 co115 hB2 dX12_number_29 rfl (by decide) (by decide) rfl) ?_
    refine ex_s (fun _ => ev_iadd dX12_number_32) ?_
    first | refine ex_s (fun _ => ev_top (nI_add _ _)) ?_ | skip
    refine ex_s (fun _ => ev_goto (tgt := 37) dX12_number_33 (by decide)) ?_
    exact ⟨_, _, (by exact pRD_of h2 (by unfold nv; rw [if_pos hc17]) (by unfold nu; rw [if_pos hc17])), ev_iret dX12_number_37 rfl rfl rfl rfl⟩
set_option maxRecDepth 4000 in
theorem qX12_isStep_1 {G : GX} {w x : WS} {n : Nat} {t : Nat → Nat} (hi : inM n t w) {s : Nat × Nat} {m : Nat} {f : Nat → Int32} (h : RD w s m f x) (he : s.1 ≤ 1) (hp : s.2 ≤ n) (h1 : s.1 = 1) : Big G 5 0 mX12_isStep [.ref 115] x (.inl (some (.int (bI false)))) x := by
  refine big_of (by decide +kernel) (Nat.le_of_ble_eq_true rfl) ?_
  have hx := RD_in hi h
  have hn6 := hi.2.1
  show Ev G 5 0 mX12_isStep 0 [some (.ref 115)] [] x _
  refine ev_aload_n dX12_isStep_0 rfl ?_
  refine ev_getI fX12_230 dX12_isStep_1 (by decide) sh115 rfl ?_
  refine ev_top (h.2.1.trans (by rw [h1]) : _ = nI 1) ?_
  refine ev_if_ne_t (tgt := 39) dX12_isStep_4 (by decide) (by decide) ?_
  refine ev_iconst dX12_isStep_39 ic0 ?_
  exact ev_iret dX12_isStep_40 rfl (by decide) rfl rfl
set_option maxRecDepth 4000 in
theorem qX12_isStep_2 {G : GX} {w x : WS} {n : Nat} {t : Nat → Nat} (hi : inM n t w) {s : Nat × Nat} {m : Nat} {f : Nat → Int32} (h : RD w s m f x) (he : s.1 ≤ 1) (hp : s.2 ≤ n) (h1 : s.1 = 0) (h2 : ¬ s.2 < n) : Big G 5 0 mX12_isStep [.ref 115] x (.inl (some (.int (bI false)))) x := by
  refine big_of (by decide +kernel) (Nat.le_of_ble_eq_true rfl) ?_
  have hx := RD_in hi h
  have hn6 := hi.2.1
  show Ev G 5 0 mX12_isStep 0 [some (.ref 115)] [] x _
  refine ev_aload_n dX12_isStep_0 rfl ?_
  refine ev_getI fX12_230 dX12_isStep_1 (by decide) sh115 rfl ?_
  refine ev_top (h.2.1.trans (by rw [h1]) : _ = nI 0) ?_
  refine ev_if_ne_f (tgt := 39) dX12_isStep_4 (by decide) rfl ?_
  refine ev_aload_n dX12_isStep_7 rfl ?_
  refine ev_getI fX12_233 dX12_isStep_8 (by decide) sh115 rfl ?_
  refine ev_top h.1 ?_
  refine ev_aload_n dX12_isStep_11 rfl ?_
  refine ev_getI fX12_135 dX12_isStep_12 (by decide) sh115 rfl ?_
  refine ev_top hx.1 ?_
  refine ev_icmp_ge_t (tgt := 39) dX12_isStep_15 (by decide) (nI_le (by omega) (by omega)) ?_
  refine ev_iconst dX12_isStep_39 ic0 ?_
  exact ev_iret dX12_isStep_40 rfl (by decide) rfl rfl
set_option maxRecDepth 4000 in
theorem qX12_isStep_3 {G : GX} {w x : WS} {n : Nat} {t : Nat → Nat} (hi : inM n t w) {s : Nat × Nat} {m : Nat} {f : Nat → Int32} (h : RD w s m f x) (he : s.1 ≤ 1) (hp : s.2 ≤ n) (h1 : s.1 = 0) (h2 : s.2 < n) (h3 : dO_ (t s.2) = none) : Big G 5 0 mX12_isStep [.ref 115] x (.inl (some (.int (bI false)))) x := by
  refine big_of (by decide +kernel) (Nat.le_of_ble_eq_true rfl) ?_
  have hx := RD_in hi h
  have hn6 := hi.2.1
  show Ev G 5 0 mX12_isStep 0 [some (.ref 115)] [] x _
  refine ev_aload_n dX12_isStep_0 rfl ?_
  refine ev_getI fX12_230 dX12_isStep_1 (by decide) sh115 rfl ?_
  refine ev_top (h.2.1.trans (by rw [h1]) : _ = nI 0) ?_
  refine ev_if_ne_f (tgt := 39) dX12_isStep_4 (by decide) rfl ?_
  refine ev_aload_n dX12_isStep_7 rfl ?_
  refine ev_getI fX12_233 dX12_isStep_8 (by decide) sh115 rfl ?_
  refine ev_top h.1 ?_
  refine ev_aload_n dX12_isStep_11 rfl ?_
  refine ev_getI fX12_135 dX12_isStep_12 (by decide) sh115 rfl ?_
  refine ev_top hx.1 ?_
  refine ev_icmp_ge_f (tgt := 39) dX12_isStep_15 (by decide) (nI_ge h2 (by omega)) ?_
  refine ev_ldc_nesw rfl dX12_isStep_18 ?_
  refine ev_aload_n dX12_isStep_20 rfl ?_
  refine ev_getR fX12_33 dX12_isStep_21 (by decide) sh115 rfl ?_
  refine ev_aload_n dX12_isStep_24 rfl ?_
  refine ev_getI fX12_233 dX12_isStep_25 (by decide) sh115 rfl ?_
  refine ev_top h.1 ?_
  have hc := hx.2.2 s.2 h2
  refine ev_caload dX12_isStep_28 rfl (by omega) (by decide) sh123 ?_
  refine ev_top hc.1 ?_
  refine ev_callVs (i := 0) kX12_127 (by decide) rfl (qJ0_indexOf_0 (n := t s.2) (by have := hc.2.2; omega)) dX12_isStep_29 rfl (by decide) (by decide) rfl ?_
  rw [h3]
  refine ev_if_lt_t (tgt := 39) dX12_isStep_32 (by decide) (by decide) ?_
  refine ev_iconst dX12_isStep_39 ic0 ?_
  exact ev_iret dX12_isStep_40 rfl (by decide) rfl rfl
set_option maxRecDepth 4000 in
theorem qX12_isStep_y {G : GX} {w x : WS} {n : Nat} {t : Nat → Nat} (hi : inM n t w) {s : Nat × Nat} {m : Nat} {f : Nat → Int32} (h : RD w s m f x) (he : s.1 ≤ 1) (hp : s.2 ≤ n) (h1 : s.1 = 0) (h2 : s.2 < n) {d : Nat} (h3 : dO_ (t s.2) = some d) : Big G 5 0 mX12_isStep [.ref 115] x (.inl (some (.int (bI true)))) x := by
  refine big_of (by decide +kernel) (Nat.le_of_ble_eq_true rfl) ?_
  have hx := RD_in hi h
  have hn6 := hi.2.1
  show Ev G 5 0 mX12_isStep 0 [some (.ref 115)] [] x _
  refine ev_aload_n dX12_isStep_0 rfl ?_
  refine ev_getI fX12_230 dX12_isStep_1 (by decide) sh115 rfl ?_
  refine ev_top (h.2.1.trans (by rw [h1]) : _ = nI 0) ?_
  refine ev_if_ne_f (tgt := 39) dX12_isStep_4 (by decide) rfl ?_
  refine ev_aload_n dX12_isStep_7 rfl ?_
  refine ev_getI fX12_233 dX12_isStep_8 (by decide) sh115 rfl ?_
  refine ev_top h.1 ?_
  refine ev_aload_n dX12_isStep_11 rfl ?_
  refine ev_getI fX12_135 dX12_isStep_12 (by decide) sh115 rfl ?_
  refine ev_top hx.1 ?_
  refine ev_icmp_ge_f (tgt := 39) dX12_isStep_15 (by decide) (nI_ge h2 (by omega)) ?_
  refine ev_ldc_nesw rfl dX12_isStep_18 ?_
  refine ev_aload_n dX12_isStep_20 rfl ?_
  refine ev_getR fX12_33 dX12_isStep_21 (by decide) sh115 rfl ?_
  refine ev_aload_n dX12_isStep_24 rfl ?_
  refine ev_getI fX12_233 dX12_isStep_25 (by decide) sh115 rfl ?_
  refine ev_top h.1 ?_
  have hc := hx.2.2 s.2 h2
  refine ev_caload dX12_isStep_28 rfl (by omega) (by decide) sh123 ?_
  refine ev_top hc.1 ?_
  refine ev_callVs (i := 0) kX12_127 (by decide) rfl (qJ0_indexOf_0 (n := t s.2) (by have := hc.2.2; omega)) dX12_isStep_29 rfl (by decide) (by decide) rfl ?_
  rw [h3]
  have hd4 := dO_lt h3
  refine ev_if_lt_f (tgt := 39) dX12_isStep_32 (by decide) (Int32.not_lt.mpr (nI_le (Nat.zero_le d) (by omega))) ?_
  refine ev_iconst dX12_isStep_35 ic1 ?_
  refine ev_goto (tgt := 40) dX12_isStep_36 (by decide) ?_
  exact ev_iret dX12_isStep_40 rfl (by decide) rfl rfl
def stE (n : Nat) (t : Nat → Nat) (s : Nat × Nat) : Bool := decide (s.1 = 0 ∧ (stp n t s.2).isSome = true)
theorem qX12_isStep {G : GX} {w x : WS} {n : Nat} {t : Nat → Nat} (hi : inM n t w) {s : Nat × Nat} {m : Nat} {f : Nat → Int32} (h : RD w s m f x) (he : s.1 ≤ 1) (hp : s.2 ≤ n) : Big G 5 0 mX12_isStep [.ref 115] x (.inl (some (.int (bI (stE n t s))))) x := by
  unfold stE stp
  by_cases h1 : s.1 = 0
  · by_cases h2 : s.2 < n
    · rw [if_pos h2]
      cases e : dO_ (t s.2) with
      | none => rw [decide_eq_false (fun q => by have := q.2; cases this)]; exact qX12_isStep_3 hi h he hp h1 h2 e
      | some d => rw [decide_eq_true ⟨h1, rfl⟩]; exact qX12_isStep_y hi h he hp h1 h2 e
    · rw [if_neg h2, decide_eq_false (fun q => by have := q.2; cases this)]; exact qX12_isStep_2 hi h he hp h1 h2
  · rw [decide_eq_false (fun q => h1 q.1)]; exact qX12_isStep_1 hi h he hp (by omega)
