/-! the finder of parts -/
theorem cm_fr {S : ST} {w w2 : WS} {L : List Nat} (h : cm_ S w) (hf : frL L w w2) (hL : L.all (fun k => decide (k < 1 ∨ 11 < k)) = true) : cm_ S w2 := ⟨ch_eq h.1 (fun k h1 h2 => hf.1 k (fun q => by have := of_decide_eq_true (List.all_eq_true.mp hL k q); omega)), h.2⟩
theorem mx_ {a b : Nat} (ha : a < 2 ^ 31) (hb : b < 2 ^ 31) : (if nI a < nI b then nI b else nI a) = nI (max a b) := by
  by_cases h : a < b
  · rw [if_pos ((pk_lt' ha hb).mpr h)]; congr 1; omega
  · rw [if_neg (fun q => h ((pk_lt' ha hb).mp q))]; congr 1; omega
theorem nI_sub_le {a b : Nat} (h : nI a ≤ nI b) (ha : a < 2 ^ 31) (hb : b < 2 ^ 31) : a ≤ b := (pk_le' ha hb).mp h
set_option maxRecDepth 4000 in
theorem qJ7_fill {G : GX} {w : WS} : Big G 1 0 mJ7_fill_53178 [.ref 113, .int (nI 0)] w (.inl none) (cs_ w 113 (fun j => if j < 64 then nI 0 else w.1 113 j)) := by
  refine big_of (by decide +kernel) (Nat.le_of_ble_eq_true rfl) ?_
  show Ev G 1 0 mJ7_fill_53178 0 [some (.ref 113), some (.int (nI 0)), none, none] [] w _
  refine ev_iconst dJ7_fill_53178_0 ic0 ?_
  refine ev_ist2 dJ7_fill_53178_1 (by decide) rfl ?_
  refine ev_aload_n dJ7_fill_53178_2 rfl ?_
  refine ev_alen dJ7_fill_53178_3 (by decide) sh113 (by decide) ?_
  refine ev_ist3 dJ7_fill_53178_4 (by decide) rfl ?_
  have lp : ∀ (n9 s : Nat) (x : WS), s + n9 = 64 → x = cs_ w 113 (fun j => if j < s then nI 0 else w.1 113 j) → Ev G 1 0 mJ7_fill_53178 5 [some (.ref 113), some (.int (nI 0)), some (.int (nI s)), some (.int (nI 64))] [] x (zu_ G (.inl none) (cs_ w 113 (fun j => if j < 64 then nI 0 else w.1 113 j))) := by
    intro n9
    induction n9 with
    | zero =>
      intro s x hi9 hx
      refine ev_iload_n dJ7_fill_53178_5 rfl ?_
      refine ev_iload_n dJ7_fill_53178_6 rfl ?_
      refine ev_icmp_ge_t (tgt := 20) dJ7_fill_53178_7 (by decide) (nI_le (by omega) (by omega)) ?_
      exact ev_vret dJ7_fill_53178_20 rfl rfl (by rw [hx, show s = 64 by omega])
    | succ n9 ih =>
      intro s x hi9 hx
      refine ev_iload_n dJ7_fill_53178_5 rfl ?_
      refine ev_iload_n dJ7_fill_53178_6 rfl ?_
      refine ev_icmp_ge_f (tgt := 20) dJ7_fill_53178_7 (by decide) (nI_ge (by omega) (by omega)) ?_
      refine ev_aload_n dJ7_fill_53178_10 rfl ?_
      refine ev_iload_n dJ7_fill_53178_11 rfl ?_
      refine ev_iload_n dJ7_fill_53178_12 rfl ?_
      refine ev_iastore dJ7_fill_53178_13 rfl (by omega) rfl (by decide) sh113 ?_
      refine ev_iinc2 dJ7_fill_53178_14 (nI_inc _) (by decide) rfl ?_
      refine ev_goto (tgt := 5) dJ7_fill_53178_17 (by decide) ?_
      refine ih (s + 1) _ (by omega) ?_
      rw [hx, cs_cs, cs_same]
      congr 1
      funext j
      unfold upd
      by_cases e : j = s
      · rw [if_pos e, if_pos (by omega)]
      · rw [if_neg e]
        dsimp only
        by_cases e2 : j < s
        · rw [if_pos e2, if_pos (by omega)]
        · rw [if_neg e2, if_neg (by omega)]
  exact lp 64 0 _ rfl (by
    apply ws_eq
    · intro k
      by_cases e : k = 113
      · subst e; rw [cs_same]; funext j; rw [if_neg (Nat.not_lt_zero _)]
      · rw [cs_ne _ _ e]
    · rfl)
def aR (w : WS) (y f : Nat) : WS := if w.1 113 y = 0 then cs_ (cs_ w 113 (upd (w.1 113) y 1)) 114 (upd (w.1 114) f (nI y)) else w
def aF (w : WS) (y f : Nat) : Nat := if w.1 113 y = 0 then f + 1 else f
set_option maxRecDepth 4000 in
theorem qX6_addReached_y {G : GX} {w : WS} {y f : Nat} (hy : y < 64) (hf : f < 64) (h0 : w.1 113 y = 0) : Big G 2 0 mX6_addReached [.ref 112, .int (nI y), .int (nI f)] w (.inl (some (.int (nI (f + 1))))) (cs_ (cs_ w 113 (upd (w.1 113) y 1)) 114 (upd (w.1 114) f (nI y))) := by
  refine big_of (by decide +kernel) (Nat.le_of_ble_eq_true rfl) ?_
  show Ev G 2 0 mX6_addReached 0 [some (.ref 112), some (.int (nI y)), some (.int (nI f))] [] w _
  refine ev_iload_n dX6_addReached_0 rfl ?_
  refine ev_callN kX6_41 (qX11_isCell_y hy) dX6_addReached_1 rfl (by decide) (by decide) rfl ?_
  refine ev_if_eq_f (tgt := 26) dX6_addReached_4 (by decide) (by decide) ?_
  refine ev_iload_n dX6_addReached_7 rfl ?_
  refine ev_if_lt_f (tgt := 26) dX6_addReached_8 (by decide) (nI_pos (by omega)) ?_
  refine ev_iload_n dX6_addReached_11 rfl ?_
  refine ev_bipush (v := nI 64) dX6_addReached_12 (by decide) ?_
  refine ev_icmp_ge_f (tgt := 26) dX6_addReached_14 (by decide) (nI_ge (by omega) (by decide)) ?_
  refine ev_aload_n dX6_addReached_17 rfl ?_
  refine ev_getR fX6_9 dX6_addReached_18 (by decide) sh112 rfl ?_
  refine ev_iload_n dX6_addReached_21 rfl ?_
  refine ev_iaload dX6_addReached_22 rfl (by omega) (by decide) sh113 ?_
  refine ev_if_eq_t (tgt := 28) dX6_addReached_23 (by decide) h0 ?_
  refine ev_aload_n dX6_addReached_28 rfl ?_
  refine ev_getR fX6_9 dX6_addReached_29 (by decide) sh112 rfl ?_
  refine ev_iload_n dX6_addReached_32 rfl ?_
  refine ev_iconst dX6_addReached_33 ic1 ?_
  refine ev_iastore dX6_addReached_34 rfl (by omega) (show nI 1 = 1 from rfl) (by decide) sh113 ?_
  refine ev_aload_n dX6_addReached_35 rfl ?_
  refine ev_getR fX6_15 dX6_addReached_36 (by decide) sh112 rfl ?_
  refine ev_iload_n dX6_addReached_39 rfl ?_
  refine ev_iload_n dX6_addReached_40 rfl ?_
  refine ev_iastore dX6_addReached_41 rfl (by omega) rfl (by decide) sh114 ?_
  refine ev_iload_n dX6_addReached_42 rfl ?_
  refine ev_iconst dX6_addReached_43 ic1 ?_
  refine ev_iadd dX6_addReached_44 ?_
  refine ev_top (nI_add _ _) ?_
  exact ev_iret dX6_addReached_45 rfl rfl rfl rfl
set_option maxRecDepth 4000 in
theorem qX6_addReached_n {G : GX} {w : WS} {y f : Nat} (hy : y < 64) (hf : f ≤ 64) (h0 : ¬ w.1 113 y = 0) : Big G 2 0 mX6_addReached [.ref 112, .int (nI y), .int (nI f)] w (.inl (some (.int (nI f)))) w := by
  refine big_of (by decide +kernel) (Nat.le_of_ble_eq_true rfl) ?_
  show Ev G 2 0 mX6_addReached 0 [some (.ref 112), some (.int (nI y)), some (.int (nI f))] [] w _
  refine ev_iload_n dX6_addReached_0 rfl ?_
  refine ev_callN kX6_41 (qX11_isCell_y hy) dX6_addReached_1 rfl (by decide) (by decide) rfl ?_
  refine ev_if_eq_f (tgt := 26) dX6_addReached_4 (by decide) (by decide) ?_
  refine ev_iload_n dX6_addReached_7 rfl ?_
  refine ev_if_lt_f (tgt := 26) dX6_addReached_8 (by decide) (nI_pos (by omega)) ?_
  refine ev_iload_n dX6_addReached_11 rfl ?_
  refine ev_bipush (v := nI 64) dX6_addReached_12 (by decide) ?_
  refine ev_icmp_ge (tgt := 26) dX6_addReached_14 (by decide) (fun hc14 => ?_) (fun hc14 => ?_)
  · refine ev_iload_n dX6_addReached_26 rfl ?_
    exact ev_iret dX6_addReached_27 rfl rfl rfl rfl
  · refine ev_aload_n dX6_addReached_17 rfl ?_
    refine ev_getR fX6_9 dX6_addReached_18 (by decide) sh112 rfl ?_
    refine ev_iload_n dX6_addReached_21 rfl ?_
    refine ev_iaload dX6_addReached_22 rfl (by omega) (by decide) sh113 ?_
    refine ev_if_eq_f (tgt := 28) dX6_addReached_23 (by decide) h0 ?_
    refine ev_iload_n dX6_addReached_26 rfl ?_
    exact ev_iret dX6_addReached_27 rfl rfl rfl rfl
theorem qX6_addReached {G : GX} {w : WS} {y f : Nat} (hy : y < 64) (hf : f ≤ 64) (h64 : w.1 113 y = 0 → f < 64) : Big G 2 0 mX6_addReached [.ref 112, .int (nI y), .int (nI f)] w (.inl (some (.int (nI (aF w y f))))) (aR w y f) := by
  unfold aF aR
  by_cases h : w.1 113 y = 0
  · rw [if_pos h, if_pos h]; exact qX6_addReached_y hy (h64 h) h
  · rw [if_neg h, if_neg h]; exact qX6_addReached_n hy hf h
theorem aR_fr {w : WS} {y f : Nat} : frL [113, 114] w (aR w y f) := by
  unfold aR
  split
  · exact frL_cs (frL_cs frL_rf (by decide) _) (by decide) _
  · exact frL_rf
theorem aR_y {w : WS} {y f : Nat} : (aR w y f).1 113 y ≠ 0 := by
  unfold aR
  by_cases h : w.1 113 y = 0
  · rw [if_pos h]
    show upd (w.1 113) y 1 y ≠ 0
    unfold upd
    rw [if_pos rfl]
    decide
  · rw [if_neg h]; exact h
theorem aR_z {w : WS} {y f z : Nat} (hz : w.1 113 z ≠ 0) : (aR w y f).1 113 z ≠ 0 := by
  unfold aR
  split
  · show upd (w.1 113) y 1 z ≠ 0
    unfold upd
    split
    · decide
    · exact hz
  · exact hz
theorem aR_gI {S : ST} {c q f y : Nat} {B : Nat → Prop} {w : WS} {R : Nat → Nat} (h : gI S c B q f (w.1 113) R) (hR : ∀ i, i < f → w.1 114 i = nI (R i)) (hq : q < f) (he : eg S (R q) y) : ∃ R2, gI S c B q (aF w y f) ((aR w y f).1 113) R2 ∧ (∀ i, i < aF w y f → (aR w y f).1 114 i = nI (R2 i)) ∧ R2 q = R q ∧ q < aF w y f := by
  unfold aR aF
  by_cases h0 : w.1 113 y = 0
  · rw [if_pos h0, if_pos h0]
    refine ⟨va_up R f y, gI_add h hq he h0 (by omega), fun i hi => ?_, ?_, by omega⟩
    · show upd (w.1 114) f (nI y) i = nI (va_up R f y i)
      unfold upd va_up
      by_cases e : i = f
      · rw [if_pos e, if_pos e]
      · rw [if_neg e, if_neg e]; exact hR i (by omega)
    · unfold va_up; rw [if_neg (by omega)]
  · rw [if_neg h0, if_neg h0]
    exact ⟨R, h, hR, rfl, hq⟩
def pGF (S : ST) (c : Nat) (B : Nat → Prop) (w : WS) : OT → WS → Prop := fun o w2 => o = .inl none ∧ frL [113, 114] w w2 ∧ ∀ x, x < 64 → (w2.1 113 x ≠ 0 ↔ B x ∨ rch S c x)
set_option maxRecDepth 4000 in
theorem qX6_goFrom {G : GX} {w : WS} {S : ST} (hS : cm_ S w) {c : Nat} (hc : c < 64) {r : Int32} (ho : sO S c = r) {B : Nat → Prop} (hB : clo S B) (hm : ∀ x, x < 64 → (w.1 113 x ≠ 0 ↔ B x)) (h0 : w.1 113 c = 0) : ∃ o w2, (pGF S c B w o w2) ∧ Big G 4 0 mX6_goFrom [.ref 112, .ref 1, .int (nI c), .int r] w o w2 := by
  refine bx_of (P := pGF S c B w) (by decide +kernel) (Nat.le_of_ble_eq_true rfl) ?_
  show Ex G 4 0 mX6_goFrom 0 [some (.ref 112), some (.ref 1), some (.int (nI c)), some (.int r), none, none, none, none] [] w _
  refine ex_s (fun _ => ev_aload_n dX6_goFrom_0 rfl) ?_
  refine ex_s (fun _ => ev_iload_n dX6_goFrom_1 rfl) ?_
  refine ex_s (fun _ => ev_iconst dX6_goFrom_2 ic0) ?_
  refine ex_s (fun _ => ev_callV kX6_34 co112 (qX6_addReached_y hc (by decide) h0) dX6_goFrom_3 rfl (by decide) (by decide) rfl) ?_
  refine ex_s (fun _ => ev_ist4 dX6_goFrom_6 (by decide) rfl) ?_
  refine ex_s (fun _ => ev_iconst dX6_goFrom_8 ic0) ?_
  refine ex_s (fun _ => ev_ist5 dX6_goFrom_9 (by decide) rfl) ?_
  have lp : ∀ (n9 q : Nat) (f : Nat) (x : WS) (R : Nat → Nat), q + n9 = 64 → q ≤ f → gI S c B q f (x.1 113) R → (∀ i, i < f → x.1 114 i = nI (R i)) → frL [113, 114] w x → Ex G 4 0 mX6_goFrom 11 [some (.ref 112), some (.ref 1), some (.int (nI c)), some (.int r), some (.int (nI f)), some (.int (nI q)), none, none] [] x (pGF S c B w) := by
    intro n9
    induction n9 with
    | zero =>
      intro q f x R hi9 hqf hg hR hfr
      refine ex_s (fun _ => ev_iload dX6_goFrom_11 rfl) ?_
      refine ex_s (fun _ => ev_iload dX6_goFrom_13 rfl) ?_
      refine ex_bp (fun _ => ev_icmp_ge (tgt := 86) dX6_goFrom_15 (by decide)) (fun hc15 => ?_) (fun hc15 => ?_)
      · obtain rfl : q = f := by
          have := nI_sub_le hc15 (by have := hg.2.2.1.1; omega) (by omega)
          omega
        exact ⟨_, _, (by exact ⟨rfl, hfr, gI_end hg hB⟩), ev_vret dX6_goFrom_86 rfl rfl rfl⟩
      · exfalso
        have := hg.2.2.1.1
        have e15 : ¬ f ≤ q := fun g => hc15 (nI_le g (by omega))
        omega
    | succ n9 ih =>
      intro q f x R hi9 hqf hg hR hfr
      refine ex_s (fun _ => ev_iload dX6_goFrom_11 rfl) ?_
      refine ex_s (fun _ => ev_iload dX6_goFrom_13 rfl) ?_
      refine ex_bp (fun _ => ev_icmp_ge (tgt := 86) dX6_goFrom_15 (by decide)) (fun hc15 => ?_) (fun hc15 => ?_)
      · obtain rfl : q = f := by
          have := nI_sub_le hc15 (by have := hg.2.2.1.1; omega) (by omega)
          omega
        exact ⟨_, _, (by exact ⟨rfl, hfr, gI_end hg hB⟩), ev_vret dX6_goFrom_86 rfl rfl rfl⟩
      · have e15 : q < f := by
          rcases Nat.lt_or_ge q f with g | g
          · exact g
          · exact absurd (nI_le g (by omega)) hc15
        have h64 := hg.2.2.1.1
        obtain ⟨a, ha⟩ : ∃ a, R q = a := ⟨_, rfl⟩
        have ha64 : a < 64 := by rw [← ha]; exact (hg.1 q e15).1
        have hoa : sO S a = r := by rw [← ha, ← rch_o (hg.1 q e15).2]; exact ho
        refine ex_s (fun _ => ev_iload dX6_goFrom_18 rfl) ?_
        refine ex_s (fun _ => ev_bipush (v := nI 64) dX6_goFrom_20 (by decide)) ?_
        refine ex_s (fun _ => ev_icmp_ge_f (tgt := 86) dX6_goFrom_22 (by decide) (nI_ge (by omega) (by decide))) ?_
        refine ex_s (fun _ => ev_iconst dX6_goFrom_25 ic0) ?_
        refine ex_s (fun _ => ev_ist6 dX6_goFrom_26 (by decide) rfl) ?_
        have lp2 : ∀ (n8 s : Nat) (f : Nat) (x : WS) (R : Nat → Nat), s + n8 = 4 → q < f → gI S c B q f (x.1 113) R → (∀ i, i < f → x.1 114 i = nI (R i)) → frL [113, 114] w x → R q = a → (∀ d, d < s → ∀ y, nb a d = some y → sO S y = r → x.1 113 y ≠ 0) → Ex G 4 0 mX6_goFrom 28 [some (.ref 112), some (.ref 1), some (.int (nI c)), some (.int r), some (.int (nI f)), some (.int (nI q)), some (.int (nI s)), none] [] x (pGF S c B w) := by
          intro n8
          induction n8 with
          | zero =>
            intro s f x R hi8 hqf hg hR hfr ha hdn
            refine ex_s (fun _ => ev_iload dX6_goFrom_28 rfl) ?_
            refine ex_s (fun _ => ev_iconst dX6_goFrom_30 ic4) ?_
            refine ex_s (fun _ => ev_icmp_ge_t (tgt := 80) dX6_goFrom_31 (by decide) (nI_le (by omega) (by omega))) ?_
            refine ex_s (fun _ => ev_iinc5 dX6_goFrom_80 (nI_inc _) (by decide) rfl) ?_
            refine ex_s (fun _ => ev_goto (tgt := 11) dX6_goFrom_83 (by decide)) ?_
            refine ex_s (fun _ => ev_fg6) ?_
            refine ih (q + 1) f x R (by omega) (by omega) (gI_q hg ?_) hR hfr
            rw [ha]
            rintro y ⟨g1, g2, d, g3, g4⟩
            exact hdn d (by omega) y g4 (by rw [← g2]; exact hoa)
          | succ n8 ih2 =>
            intro s f x R hi8 hqf hg hR hfr ha hdn
            refine ex_s (fun _ => ev_iload dX6_goFrom_28 rfl) ?_
            refine ex_s (fun _ => ev_iconst dX6_goFrom_30 ic4) ?_
            refine ex_s (fun _ => ev_icmp_ge_f (tgt := 80) dX6_goFrom_31 (by decide) (nI_ge (by omega) (by decide))) ?_
            refine ex_s (fun _ => ev_aload_n dX6_goFrom_34 rfl) ?_
            refine ex_s (fun _ => ev_getR fX6_15 dX6_goFrom_35 (by decide) sh112 rfl) ?_
            refine ex_s (fun _ => ev_iload dX6_goFrom_38 rfl) ?_
            refine ex_s (fun _ => ev_iaload dX6_goFrom_40 rfl (by have := hg.2.2.1.1; omega) (by decide) sh114) ?_
            refine ex_s (fun _ => ev_top ((hR q hqf).trans (by rw [ha]))) ?_
            refine ex_s (fun _ => ev_iload dX6_goFrom_41 rfl) ?_
            refine ex_s (fun _ => ev_callN kX6_38 (qX11_beside ha64 (by omega)) dX6_goFrom_43 rfl (by decide) (by decide) rfl) ?_
            refine ex_s (fun _ => ev_ist7 dX6_goFrom_46 (by decide) rfl) ?_
            refine ex_s (fun _ => ev_iload dX6_goFrom_48 rfl) ?_
            refine ex_s (fun _ => ev_iconst dX6_goFrom_50 icm1) ?_
            refine ex_bp (fun _ => ev_icmp_eq (tgt := 74) dX6_goFrom_51 (by decide)) (fun hc51 => ?_) (fun hc51 => ?_)
            · have e51 : nb a s = none := (oI_none (fun k hk => by have := nb_lt ha64 hk; omega)).mp hc51
              refine ex_s (fun _ => ev_iinc6 dX6_goFrom_74 (nI_inc _) (by decide) rfl) ?_
              refine ex_s (fun _ => ev_goto (tgt := 28) dX6_goFrom_77 (by decide)) ?_
              refine ex_s (fun _ => ev_fg7) ?_
              exact ih2 (s + 1) f x R (by omega) hqf hg hR hfr ha (fun d hd y hy ho => by
                by_cases e : d = s
                · subst e; rw [e51] at hy; cases hy
                · exact hdn d (by omega) y hy ho)
            · obtain ⟨y, hy⟩ : ∃ y, nb a s = some y := by
                cases e : nb a s with
                | none => rw [e] at hc51; exact absurd rfl hc51
                | some d => exact ⟨d, rfl⟩
              have hy64 := nb_lt ha64 hy
              rw [hy]
              refine ex_s (fun _ => ev_aload_n dX6_goFrom_54 rfl) ?_
              refine ex_s (fun _ => ev_iload dX6_goFrom_55 rfl) ?_
              refine ex_s (fun _ => ev_callV kX6_24 co1 (qX1_ownerAt_y (cm_fr hS hfr (by decide)) hy64) dX6_goFrom_57 rfl (by decide) (by decide) rfl) ?_
              refine ex_s (fun _ => ev_iload_n dX6_goFrom_60 rfl) ?_
              refine ex_bn (fun _ => ev_icmp_ne (tgt := 74) dX6_goFrom_61 (by decide)) (fun hc61 => ?_) (fun hc61 => ?_)
              · refine ex_s (fun _ => ev_iinc6 dX6_goFrom_74 (nI_inc _) (by decide) rfl) ?_
                refine ex_s (fun _ => ev_goto (tgt := 28) dX6_goFrom_77 (by decide)) ?_
                refine ex_s (fun _ => ev_fg7) ?_
                exact ih2 (s + 1) f x R (by omega) hqf hg hR hfr ha (fun d hd y2 hy2 ho => by
                  by_cases e : d = s
                  · subst e; rw [hy] at hy2; cases hy2; exact absurd ho hc61
                  · exact hdn d (by omega) y2 hy2 ho)
              · refine ex_s (fun _ => ev_aload_n dX6_goFrom_64 rfl) ?_
                refine ex_s (fun _ => ev_iload dX6_goFrom_65 rfl) ?_
                refine ex_s (fun _ => ev_iload dX6_goFrom_67 rfl) ?_
                have heg : eg S (R q) y := by rw [ha]; exact ⟨ha64, hoa.trans hc61.symm, s, by omega, hy⟩
                refine ex_s (fun _ => ev_callV kX6_34 co112 (qX6_addReached hy64 hg.2.2.1.1 (fun h0 => gI_lt hg hy64 h0)) dX6_goFrom_69 rfl (by decide) (by decide) rfl) ?_
                refine ex_s (fun _ => ev_ist4 dX6_goFrom_72 (by decide) rfl) ?_
                refine ex_s (fun _ => ev_iinc6 dX6_goFrom_74 (nI_inc _) (by decide) rfl) ?_
                refine ex_s (fun _ => ev_goto (tgt := 28) dX6_goFrom_77 (by decide)) ?_
                refine ex_s (fun _ => ev_fg7) ?_
                obtain ⟨R2, k1, k2, k3, k4⟩ := aR_gI hg hR hqf heg
                exact ih2 (s + 1) _ _ R2 (by omega) k4 k1 k2 (frL_tr hfr aR_fr) (k3.trans ha) (fun d hd y2 hy2 ho => by
                  by_cases e : d = s
                  · subst e; rw [hy] at hy2; cases hy2; exact aR_y
                  · exact aR_z (hdn d (by omega) y2 hy2 ho))
        exact lp2 4 0 f x R (by omega) e15 hg hR hfr ha (fun d hd => absurd hd (Nat.not_lt_zero _))
  exact lp 64 0 1 _ (va_up (fun _ => 0) 0 c) rfl (Nat.zero_le _) (gI_0 hc hm h0) (fun i hi => by
    obtain rfl : i = 0 := by omega
    rfl) (frL_cs (frL_cs frL_rf (by decide) _) (by decide) _)
def pBG (S : ST) (r : Int32) (w : WS) : OT → WS → Prop := fun o w2 => o = .inl (some (.int (nI (ccS S r)))) ∧ frL [113, 114] w w2
set_option maxRecDepth 4000 in
theorem qX6_byGoing {G : GX} {w : WS} {S : ST} (hS : cm_ S w) {r : Int32} : ∃ o w2, (pBG S r w o w2) ∧ Big G 5 0 mX6_byGoing [.ref 112, .ref 1, .int r] w o w2 := by
  refine bx_of (P := pBG S r w) (by decide +kernel) (Nat.le_of_ble_eq_true rfl) ?_
  show Ex G 5 0 mX6_byGoing 0 [some (.ref 112), some (.ref 1), some (.int r), none, none] [] w _
  refine ex_s (fun _ => ev_aload_n dX6_byGoing_0 rfl) ?_
  refine ex_s (fun _ => ev_getR fX6_9 dX6_byGoing_1 (by decide) sh112 rfl) ?_
  refine ex_s (fun _ => ev_iconst dX6_byGoing_4 ic0) ?_
  refine ex_s (fun _ => ev_callS kX6_18 qJ7_fill dX6_byGoing_5 rfl (by decide) (by decide) rfl) ?_
  refine ex_s (fun _ => ev_iconst dX6_byGoing_8 ic0) ?_
  refine ex_s (fun _ => ev_ist3 dX6_byGoing_9 (by decide) rfl) ?_
  refine ex_s (fun _ => ev_iconst dX6_byGoing_10 ic0) ?_
  refine ex_s (fun _ => ev_ist4 dX6_byGoing_11 (by decide) rfl) ?_
  have lp : ∀ (n9 k : Nat) (x : WS), k + n9 = 64 → (∀ y, y < 64 → (x.1 113 y ≠ 0 ↔ vis S r k y)) → frL [113, 114] w x → Ex G 5 0 mX6_byGoing 13 [some (.ref 112), some (.ref 1), some (.int r), some (.int (nI (ct (mrb S r) k))), some (.int (nI k))] [] x (pBG S r w) := by
    intro n9
    induction n9 with
    | zero =>
      intro k x hi9 hv hfr
      refine ex_s (fun _ => ev_iload dX6_byGoing_13 rfl) ?_
      refine ex_s (fun _ => ev_bipush (v := nI 64) dX6_byGoing_15 (by decide)) ?_
      refine ex_s (fun _ => ev_icmp_ge_t (tgt := 57) dX6_byGoing_17 (by decide) (nI_le (by omega) (by omega))) ?_
      refine ex_s (fun _ => ev_iload_n dX6_byGoing_57 rfl) ?_
      exact ⟨_, _, (by exact ⟨by rw [show ccS S r = ct (mrb S r) k by unfold ccS; rw [show k = 64 by omega]], hfr⟩), ev_iret dX6_byGoing_58 rfl rfl rfl rfl⟩
    | succ n9 ih =>
      intro k x hi9 hv hfr
      refine ex_s (fun _ => ev_iload dX6_byGoing_13 rfl) ?_
      refine ex_s (fun _ => ev_bipush (v := nI 64) dX6_byGoing_15 (by decide)) ?_
      refine ex_s (fun _ => ev_icmp_ge_f (tgt := 57) dX6_byGoing_17 (by decide) (nI_ge (by omega) (by decide))) ?_
      refine ex_s (fun _ => ev_aload_n dX6_byGoing_20 rfl) ?_
      refine ex_s (fun _ => ev_getR fX6_9 dX6_byGoing_21 (by decide) sh112 rfl) ?_
      refine ex_s (fun _ => ev_iload dX6_byGoing_24 rfl) ?_
      refine ex_s (fun _ => ev_iaload dX6_byGoing_26 rfl (by omega) (by decide) sh113) ?_
      refine ex_bn (fun _ => ev_if_ne (tgt := 51) dX6_byGoing_27 (by decide)) (fun hc27 => ?_) (fun hc27 => ?_)
      · have hsk : sO S k ≠ r ∨ vis S r k k := Or.inr ((hv k (by omega)).mp hc27)
        rw [← vis_ct2 hsk]
        refine ex_s (fun _ => ev_iinc4 dX6_byGoing_51 (nI_inc _) (by decide) rfl) ?_
        refine ex_s (fun _ => ev_goto (tgt := 13) dX6_byGoing_54 (by decide)) ?_
        refine ih (k + 1) x (by omega) (fun y hy => (hv y hy).trans (vis_s2 hsk).symm) hfr
      · have hnv : ¬ vis S r k k := fun q => ((hv k (by omega)).mpr q) hc27
        refine ex_s (fun _ => ev_aload_n dX6_byGoing_30 rfl) ?_
        refine ex_s (fun _ => ev_iload dX6_byGoing_31 rfl) ?_
        refine ex_s (fun _ => ev_callV kX6_24 co1 (qX1_ownerAt_y (cm_fr hS hfr (by decide)) (by omega)) dX6_byGoing_33 rfl (by decide) (by decide) rfl) ?_
        refine ex_s (fun _ => ev_iload_n dX6_byGoing_36 rfl) ?_
        refine ex_bn (fun _ => ev_icmp_ne (tgt := 51) dX6_byGoing_37 (by decide)) (fun hc37 => ?_) (fun hc37 => ?_)
        · have hsk : sO S k ≠ r ∨ vis S r k k := Or.inl hc37
          rw [← vis_ct2 hsk]
          refine ex_s (fun _ => ev_iinc4 dX6_byGoing_51 (nI_inc _) (by decide) rfl) ?_
          refine ex_s (fun _ => ev_goto (tgt := 13) dX6_byGoing_54 (by decide)) ?_
          refine ih (k + 1) x (by omega) (fun y hy => (hv y hy).trans (vis_s2 hsk).symm) hfr
        · refine ex_s (fun _ => ev_iinc3 dX6_byGoing_40 (nI_inc _) (by decide) rfl) ?_
          rw [← vis_ct1 hc37 hnv]
          obtain ⟨_, w3, ⟨rfl, g1, g2⟩, hB3⟩ := qX6_goFrom (G := G) (cm_fr hS hfr (by decide)) (c := k) (by omega) hc37 vis_clo hv hc27
          refine ex_s (fun _ => ev_aload_n dX6_byGoing_43 rfl) ?_
          refine ex_s (fun _ => ev_aload_n dX6_byGoing_44 rfl) ?_
          refine ex_s (fun _ => ev_iload dX6_byGoing_45 rfl) ?_
          refine ex_s (fun _ => ev_iload_n dX6_byGoing_47 rfl) ?_
          refine ex_s (fun _ => ev_callV kX6_30 co112 hB3 dX6_byGoing_48 rfl (by decide) (by decide) rfl) ?_
          refine ex_s (fun _ => ev_iinc4 dX6_byGoing_51 (nI_inc _) (by decide) rfl) ?_
          refine ex_s (fun _ => ev_goto (tgt := 13) dX6_byGoing_54 (by decide)) ?_
          exact ih (k + 1) w3 (by omega) (fun y hy => (g2 y hy).trans (vis_s1 hc37).symm) (frL_tr hfr g1)
  exact lp 64 0 _ rfl (fun y hy => by
    show (if y < 64 then nI 0 else w.1 113 y) ≠ 0 ↔ _
    rw [if_pos hy]
    refine ⟨fun q => absurd rfl q, ?_⟩
    rintro ⟨c, h1, -⟩
    exact absurd h1 (Nat.not_lt_zero _)) (frL_cs frL_rf (by decide) _)
set_option maxRecDepth 4000 in
theorem qX6_headOf {G : GX} {w : WS} {m : Nat → Nat} (hm : ∀ x, m x ≤ x) (hv : ∀ j, j < 64 → w.1 113 j = nI (m j)) {y : Nat} (hy : y < 64) : Big G 2 0 mX6_headOf [.ref 112, .int (nI y)] w (.inl (some (.int (nI (hd_ m y))))) w := by
  refine big_of (by decide +kernel) (Nat.le_of_ble_eq_true rfl) ?_
  show Ev G 2 0 mX6_headOf 0 [some (.ref 112), some (.int (nI y)), none, none] [] w _
  refine ev_iload_n dX6_headOf_0 rfl ?_
  refine ev_ist2 dX6_headOf_1 (by decide) rfl ?_
  refine ev_iconst dX6_headOf_2 ic0 ?_
  refine ev_ist3 dX6_headOf_3 (by decide) rfl ?_
  have lp : ∀ (n9 k : Nat) (h : Nat), k + n9 = 64 → hd_ m y = hd_ m h → h + k ≤ y → Ev G 2 0 mX6_headOf 4 [some (.ref 112), some (.int (nI y)), some (.int (nI h)), some (.int (nI k))] [] w (zu_ G (.inl (some (.int (nI (hd_ m y))))) w) := by
    intro n9
    induction n9 with
    | zero =>
      intro k h hi9 hh hl
      exfalso
      omega
    | succ n9 ih =>
      intro k h hi9 hh hl
      refine ev_iload_n dX6_headOf_4 rfl ?_
      refine ev_bipush (v := nI 64) dX6_headOf_5 (by decide) ?_
      refine ev_icmp_ge_f (tgt := 40) dX6_headOf_7 (by decide) (nI_ge (by omega) (by decide)) ?_
      refine ev_iload_n dX6_headOf_10 rfl ?_
      refine ev_callN kX6_41 (qX11_isCell_y (by omega)) dX6_headOf_11 rfl (by decide) (by decide) rfl ?_
      refine ev_if_eq_f (tgt := 40) dX6_headOf_14 (by decide) (by decide) ?_
      refine ev_aload_n dX6_headOf_17 rfl ?_
      refine ev_getR fX6_9 dX6_headOf_18 (by decide) sh112 rfl ?_
      refine ev_iload_n dX6_headOf_21 rfl ?_
      refine ev_iaload dX6_headOf_22 rfl (by omega) (by decide) sh113 ?_
      refine ev_top (hv h (by omega)) ?_
      refine ev_iload_n dX6_headOf_23 rfl ?_
      refine ev_icmp_eq (tgt := 40) dX6_headOf_24 (by decide) (fun hc24 => ?_) (fun hc24 => ?_)
      · have e24 : m h = h := nI_inj (by have := hm h; omega) (by omega) hc24
        refine ev_iload_n dX6_headOf_40 rfl ?_
        exact ev_iret dX6_headOf_41 rfl rfl (by rw [hh, hd_r e24]) rfl
      · have e24 : m h ≠ h := fun q => hc24 (by rw [q])
        refine ev_aload_n dX6_headOf_27 rfl ?_
        refine ev_getR fX6_9 dX6_headOf_28 (by decide) sh112 rfl ?_
        refine ev_iload_n dX6_headOf_31 rfl ?_
        refine ev_iaload dX6_headOf_32 rfl (by omega) (by decide) sh113 ?_
        refine ev_top (hv h (by omega)) ?_
        refine ev_ist2 dX6_headOf_33 (by decide) rfl ?_
        refine ev_iinc3 dX6_headOf_34 (nI_inc _) (by decide) rfl ?_
        refine ev_goto (tgt := 4) dX6_headOf_37 (by decide) ?_
        have := hm h
        exact ih (k + 1) (m h) (by omega) (hh.trans (hd_s hm e24)) (by omega)
  exact lp 64 0 y rfl rfl (Nat.le_refl _)
def pJT (S : ST) (r : Int32) (m : Nat → Nat) (n x d : Nat) (w : WS) : OT → WS → Prop := fun o w2 => ∃ j m2, j ≤ n ∧ o = .inl (some (.int (nI j))) ∧ (∀ i, i < 64 → w2.1 113 i = nI (m2 i)) ∧ uI S r m2 (n - j) ∧ frL [113] w w2 ∧ (∀ a b, hd_ m a = hd_ m b → hd_ m2 a = hd_ m2 b) ∧ ∀ y, nb x d = some y → sO S y = r → hd_ m2 x = hd_ m2 y
set_option maxRecDepth 4000 in
theorem qX6_joinTo {G : GX} {w : WS} {S : ST} (hS : cm_ S w) {r : Int32} {m : Nat → Nat} {n x d : Nat} (hx : x < 64) (hd : d < 4) (ho : sO S x = r) (hu : uI S r m n) (hv : ∀ j, j < 64 → w.1 113 j = nI (m j)) : ∃ o w2, (pJT S r m n x d w o w2) ∧ Big G 3 0 mX6_joinTo [.ref 112, .ref 1, .int (nI x), .int (oI (nb x d))] w o w2 := by
  refine bx_of (P := pJT S r m n x d w) (by decide +kernel) (Nat.le_of_ble_eq_true rfl) ?_
  show Ex G 3 0 mX6_joinTo 0 [some (.ref 112), some (.ref 1), some (.int (nI x)), some (.int (oI (nb x d))), none, none] [] w _
  refine ex_s (fun _ => ev_iload_n dX6_joinTo_0 rfl) ?_
  refine ex_s (fun _ => ev_iconst dX6_joinTo_1 icm1) ?_
  refine ex_bp (fun _ => ev_icmp_eq (tgt := 18) dX6_joinTo_2 (by decide)) (fun hc2 => ?_) (fun hc2 => ?_)
  · have e2 : nb x d = none := (oI_none (fun k hk => by have := nb_lt hx hk; omega)).mp hc2
    refine ex_s (fun _ => ev_iconst dX6_joinTo_18 ic0) ?_
    exact ⟨_, _, (by exact ⟨0, m, Nat.zero_le _, rfl, hv, hu, frL_rf, fun _ _ h => h, fun y2 hy2 ho2 => by rw [e2] at hy2; cases hy2⟩), ev_iret dX6_joinTo_19 rfl rfl rfl rfl⟩
  · obtain ⟨y, hy⟩ : ∃ y, nb x d = some y := by
      cases e : nb x d with
      | none => rw [e] at hc2; exact absurd rfl hc2
      | some d => exact ⟨d, rfl⟩
    have hy64 := nb_lt hx hy
    rw [hy]
    have lx := hd_le hu.1 (x := x)
    have ly := hd_le hu.1 (x := y)
    refine ex_s (fun _ => ev_aload_n dX6_joinTo_5 rfl) ?_
    refine ex_s (fun _ => ev_iload_n dX6_joinTo_6 rfl) ?_
    refine ex_s (fun _ => ev_callV kX6_24 co1 (qX1_ownerAt_y hS hy64) dX6_joinTo_7 rfl (by decide) (by decide) rfl) ?_
    refine ex_s (fun _ => ev_aload_n dX6_joinTo_10 rfl) ?_
    refine ex_s (fun _ => ev_iload_n dX6_joinTo_11 rfl) ?_
    refine ex_s (fun _ => ev_callV kX6_24 co1 (qX1_ownerAt_y hS hx) dX6_joinTo_12 rfl (by decide) (by decide) rfl) ?_
    refine ex_bp (fun _ => ev_icmp_eq (tgt := 20) dX6_joinTo_15 (by decide)) (fun hc15 => ?_) (fun hc15 => ?_)
    · refine ex_s (fun _ => ev_aload_n dX6_joinTo_20 rfl) ?_
      refine ex_s (fun _ => ev_iload_n dX6_joinTo_21 rfl) ?_
      refine ex_s (fun _ => ev_callV kX6_52 co112 (qX6_headOf hu.1 hv hx) dX6_joinTo_22 rfl (by decide) (by decide) rfl) ?_
      refine ex_s (fun _ => ev_ist4 dX6_joinTo_25 (by decide) rfl) ?_
      refine ex_s (fun _ => ev_aload_n dX6_joinTo_27 rfl) ?_
      refine ex_s (fun _ => ev_iload_n dX6_joinTo_28 rfl) ?_
      refine ex_s (fun _ => ev_callV kX6_52 co112 (qX6_headOf hu.1 hv hy64) dX6_joinTo_29 rfl (by decide) (by decide) rfl) ?_
      refine ex_s (fun _ => ev_ist5 dX6_joinTo_32 (by decide) rfl) ?_
      refine ex_s (fun _ => ev_iload dX6_joinTo_34 rfl) ?_
      refine ex_s (fun _ => ev_iload dX6_joinTo_36 rfl) ?_
      refine ex_bp (fun _ => ev_icmp_eq (tgt := 57) dX6_joinTo_38 (by decide)) (fun hc38 => ?_) (fun hc38 => ?_)
      · have e38 : hd_ m x = hd_ m y := nI_inj (by omega) (by omega) hc38
        refine ex_s (fun _ => ev_iconst dX6_joinTo_57 ic0) ?_
        exact ⟨_, _, (by exact ⟨0, m, Nat.zero_le _, rfl, hv, hu, frL_rf, fun _ _ h => h, fun y2 hy2 ho2 => by rw [hy] at hy2; cases hy2; exact e38⟩), ev_iret dX6_joinTo_58 rfl rfl rfl rfl⟩
      · have e38 : hd_ m x ≠ hd_ m y := fun q => hc38 (by rw [q])
        refine ex_s (fun _ => ev_iload dX6_joinTo_41 rfl) ?_
        refine ex_s (fun _ => ev_callN kX6_41 (qX11_isCell_y (by omega)) dX6_joinTo_43 rfl (by decide) (by decide) rfl) ?_
        refine ex_s (fun _ => ev_if_eq_f (tgt := 57) dX6_joinTo_46 (by decide) (by decide)) ?_
        refine ex_s (fun _ => ev_iload dX6_joinTo_49 rfl) ?_
        refine ex_s (fun _ => ev_callN kX6_41 (qX11_isCell_y (by omega)) dX6_joinTo_51 rfl (by decide) (by decide) rfl) ?_
        refine ex_s (fun _ => ev_if_ne_t (tgt := 59) dX6_joinTo_54 (by decide) (by decide)) ?_
        refine ex_s (fun _ => ev_aload_n dX6_joinTo_59 rfl) ?_
        refine ex_s (fun _ => ev_getR fX6_9 dX6_joinTo_60 (by decide) sh112 rfl) ?_
        refine ex_s (fun _ => ev_iload dX6_joinTo_63 rfl) ?_
        refine ex_s (fun _ => ev_iload dX6_joinTo_65 rfl) ?_
        refine ex_s (fun _ => ev_max aX6_55 dX6_joinTo_67 rfl) ?_
        rw [mx_ (by omega) (by omega)]
        refine ex_s (fun _ => ev_iload dX6_joinTo_70 rfl) ?_
        refine ex_s (fun _ => ev_iload dX6_joinTo_72 rfl) ?_
        refine ex_s (fun _ => ev_min aX6_60 dX6_joinTo_74 rfl) ?_
        rw [mn_ (by omega) (by omega)]
        refine ex_s (fun _ => ev_iastore dX6_joinTo_77 rfl (by omega) rfl (by decide) sh113) ?_
        refine ex_s (fun _ => ev_iconst dX6_joinTo_78 ic1) ?_
        exact ⟨_, _, (by exact (by
                have he : eg S x y := ⟨hx, hc15.symm, d, hd, hy⟩
                have hj := uI_j hu hx ho he e38
                refine ⟨1, _, hj.2, rfl, fun i hi => ?_, hj.1, frL_cs frL_rf (by decide) _, fun a b hab => ?_, fun y2 hy2 ho2 => ?_⟩
                · show upd (w.1 113) (max (hd_ m x) (hd_ m y)) (nI (min (hd_ m x) (hd_ m y))) i = nI (va_up m (max (hd_ m x) (hd_ m y)) (min (hd_ m x) (hd_ m y)) i)
                  unfold upd va_up
                  by_cases e : i = max (hd_ m x) (hd_ m y)
                  · rw [if_pos e, if_pos e]
                  · rw [if_neg e, if_neg e]; exact hv i hi
                · have ex := hd_en hu.1 (x := x)
                  have ey := hd_en hu.1 (x := y)
                  rcases Nat.lt_or_ge (hd_ m x) (hd_ m y) with g | g
                  · rw [show max (hd_ m x) (hd_ m y) = hd_ m y by omega, show min (hd_ m x) (hd_ m y) = hd_ m x by omega]
                    exact uI_k hu.1 ey ex g hab
                  · rw [show max (hd_ m x) (hd_ m y) = hd_ m x by omega, show min (hd_ m x) (hd_ m y) = hd_ m y by omega]
                    exact uI_k hu.1 ex ey (by omega) hab
                · rw [hy] at hy2; cases hy2; exact uI_d hu.1 e38)), ev_iret dX6_joinTo_79 rfl rfl rfl rfl⟩
    · refine ex_s (fun _ => ev_iconst dX6_joinTo_18 ic0) ?_
      exact ⟨_, _, (by exact ⟨0, m, Nat.zero_le _, rfl, hv, hu, frL_rf, fun _ _ h => h, fun y2 hy2 ho2 => by rw [hy] at hy2; cases hy2; exact absurd (ho2.trans ho.symm) hc15⟩), ev_iret dX6_joinTo_19 rfl rfl rfl rfl⟩
def edn (S : ST) (r : Int32) (m : Nat → Nat) (k : Nat) : Prop := ∀ x y, x < k → sO S x = r → sO S y = r → (nb x 1 = some y ∨ nb x 2 = some y) → hd_ m x = hd_ m y
theorem uI_0 (S : ST) (r : Int32) : uI S r (fun x => x) (cO S r) := ⟨fun _ => Nat.le_refl _, fun _ _ => rch_rf, ct_congr (fun x _ => by
  by_cases h : sO S x = r
  · rw [decide_eq_true ⟨h, rfl⟩]; exact beq_iff_eq.mpr h
  · rw [decide_eq_false (fun q => h q.1)]; exact beq_eq_false_iff_ne.mpr h)⟩
def pBJ (S : ST) (r : Int32) (w : WS) : OT → WS → Prop := fun o w2 => o = .inl (some (.int (nI (ccS S r)))) ∧ frL [113, 114] w w2
set_option maxRecDepth 4000 in
theorem qX6_byJoining {G : GX} {w : WS} {S : ST} (hS : cm_ S w) {r : Int32} : ∃ o w2, (pBJ S r w o w2) ∧ Big G 5 0 mX6_byJoining [.ref 112, .ref 1, .int r] w o w2 := by
  refine bx_of (P := pBJ S r w) (by decide +kernel) (Nat.le_of_ble_eq_true rfl) ?_
  show Ex G 5 0 mX6_byJoining 0 [some (.ref 112), some (.ref 1), some (.int r), none, none] [] w _
  refine ex_s (fun _ => ev_iconst dX6_byJoining_0 ic0) ?_
  refine ex_s (fun _ => ev_ist3 dX6_byJoining_1 (by decide) rfl) ?_
  have hmain : ∀ x : WS, (∀ j, j < 64 → x.1 113 j = nI j) → frL [113, 114] w x → Ex G 5 0 mX6_byJoining 21 [some (.ref 112), some (.ref 1), some (.int r), none, none] [] x (pBJ S r w) := by
    intro x hv hfr
    refine ex_s (fun _ => ev_aload_n dX6_byJoining_21 rfl) ?_
    refine ex_s (fun _ => ev_iload_n dX6_byJoining_22 rfl) ?_
    refine ex_s (fun _ => ev_callV kX6_45 co1 (qX1_cellsOf (cm_fr hS hfr (by decide))) dX6_byJoining_23 rfl (by decide) (by decide) rfl) ?_
    refine ex_s (fun _ => ev_ist3 dX6_byJoining_26 (by decide) rfl) ?_
    refine ex_s (fun _ => ev_iconst dX6_byJoining_27 ic0) ?_
    refine ex_s (fun _ => ev_ist4 dX6_byJoining_28 (by decide) rfl) ?_
    have lp : ∀ (n9 k : Nat) (n : Nat) (x : WS) (m : Nat → Nat), k + n9 = 64 → uI S r m n → (∀ j, j < 64 → x.1 113 j = nI (m j)) → frL [113, 114] w x → edn S r m k → Ex G 5 0 mX6_byJoining 30 [some (.ref 112), some (.ref 1), some (.int r), some (.int (nI n)), some (.int (nI k))] [] x (pBJ S r w) := by
      intro n9
      induction n9 with
      | zero =>
        intro k n x m hi9 hu hv hfr hed
        refine ex_s (fun _ => ev_iload dX6_byJoining_30 rfl) ?_
        refine ex_s (fun _ => ev_bipush (v := nI 64) dX6_byJoining_32 (by decide)) ?_
        refine ex_s (fun _ => ev_icmp_ge_t (tgt := 85) dX6_byJoining_34 (by decide) (nI_le (by omega) (by omega))) ?_
        refine ex_s (fun _ => ev_iload_n dX6_byJoining_85 rfl) ?_
        exact ⟨_, _, (by exact ⟨by rw [uI_end hu (fun x y hx => hed x y (by omega))], hfr⟩), ev_iret dX6_byJoining_86 rfl rfl rfl rfl⟩
      | succ n9 ih =>
        intro k n x m hi9 hu hv hfr hed
        refine ex_s (fun _ => ev_iload dX6_byJoining_30 rfl) ?_
        refine ex_s (fun _ => ev_bipush (v := nI 64) dX6_byJoining_32 (by decide)) ?_
        refine ex_s (fun _ => ev_icmp_ge_f (tgt := 85) dX6_byJoining_34 (by decide) (nI_ge (by omega) (by decide))) ?_
        refine ex_s (fun _ => ev_aload_n dX6_byJoining_37 rfl) ?_
        refine ex_s (fun _ => ev_iload dX6_byJoining_38 rfl) ?_
        have hSx := cm_fr hS hfr (by decide)
        refine ex_s (fun _ => ev_callV kX6_24 co1 (qX1_ownerAt_y hSx (by omega)) dX6_byJoining_40 rfl (by decide) (by decide) rfl) ?_
        refine ex_s (fun _ => ev_iload_n dX6_byJoining_43 rfl) ?_
        refine ex_bn (fun _ => ev_icmp_ne (tgt := 79) dX6_byJoining_44 (by decide)) (fun hc44 => ?_) (fun hc44 => ?_)
        · refine ex_s (fun _ => ev_iinc4 dX6_byJoining_79 (nI_inc _) (by decide) rfl) ?_
          refine ex_s (fun _ => ev_goto (tgt := 30) dX6_byJoining_82 (by decide)) ?_
          exact ih (k + 1) n x m (by omega) hu hv hfr (fun a b ha h1 h2 h3 => by
            by_cases e : a = k
            · subst e; exact absurd h1 hc44
            · exact hed a b (by omega) h1 h2 h3)
        · refine ex_s (fun _ => ev_iload_n dX6_byJoining_47 rfl) ?_
          refine ex_s (fun _ => ev_aload_n dX6_byJoining_48 rfl) ?_
          refine ex_s (fun _ => ev_aload_n dX6_byJoining_49 rfl) ?_
          refine ex_s (fun _ => ev_iload dX6_byJoining_50 rfl) ?_
          refine ex_s (fun _ => ev_iload dX6_byJoining_52 rfl) ?_
          refine ex_s (fun _ => ev_iconst dX6_byJoining_54 ic1) ?_
          refine ex_s (fun _ => ev_callN kX6_38 (qX11_beside (by omega) (d := 1) (by decide)) dX6_byJoining_55 rfl (by decide) (by decide) rfl) ?_
          obtain ⟨_, w3, ⟨j1, m1, k1, rfl, k2, k3, k4, k5, k6⟩, hB3⟩ := qX6_joinTo (G := G) hSx (x := k) (d := 1) (by omega) (by decide) hc44 hu hv
          refine ex_s (fun _ => ev_callV kX6_48 co112 hB3 dX6_byJoining_58 rfl (by decide) (by decide) rfl) ?_
          refine ex_s (fun _ => ev_isub dX6_byJoining_61) ?_
          refine ex_s (fun _ => ev_top (pk_sub k1)) ?_
          refine ex_s (fun _ => ev_ist3 dX6_byJoining_62 (by decide) rfl) ?_
          refine ex_s (fun _ => ev_iload_n dX6_byJoining_63 rfl) ?_
          refine ex_s (fun _ => ev_aload_n dX6_byJoining_64 rfl) ?_
          refine ex_s (fun _ => ev_aload_n dX6_byJoining_65 rfl) ?_
          refine ex_s (fun _ => ev_iload dX6_byJoining_66 rfl) ?_
          refine ex_s (fun _ => ev_iload dX6_byJoining_68 rfl) ?_
          refine ex_s (fun _ => ev_iconst dX6_byJoining_70 ic2) ?_
          refine ex_s (fun _ => ev_callN kX6_38 (qX11_beside (by omega) (d := 2) (by decide)) dX6_byJoining_71 rfl (by decide) (by decide) rfl) ?_
          have f3 := frL_tr hfr (frL_mo k4 (L2 := [113, 114]) (fun q hq => by simp at hq ⊢; exact Or.inl hq))
          obtain ⟨_, w4, ⟨j2, m2, g1, rfl, g2, g3, g4, g5, g6⟩, hB4⟩ := qX6_joinTo (G := G) (cm_fr hS f3 (by decide)) (x := k) (d := 2) (by omega) (by decide) hc44 k3 k2
          refine ex_s (fun _ => ev_callV kX6_48 co112 hB4 dX6_byJoining_74 rfl (by decide) (by decide) rfl) ?_
          refine ex_s (fun _ => ev_isub dX6_byJoining_77) ?_
          refine ex_s (fun _ => ev_top (pk_sub g1)) ?_
          refine ex_s (fun _ => ev_ist3 dX6_byJoining_78 (by decide) rfl) ?_
          refine ex_s (fun _ => ev_iinc4 dX6_byJoining_79 (nI_inc _) (by decide) rfl) ?_
          refine ex_s (fun _ => ev_goto (tgt := 30) dX6_byJoining_82 (by decide)) ?_
          exact ih (k + 1) _ w4 m2 (by omega) g3 g2 (frL_tr f3 (frL_mo g4 (fun q hq => by simp at hq ⊢; exact Or.inl hq))) (fun a b ha h1 h2 h3 => by
            by_cases e : a = k
            · subst e
              rcases h3 with h3 | h3
              · exact g5 _ _ (k6 b h3 h2)
              · exact g6 b h3 h2
            · exact g5 _ _ (k5 _ _ (hed a b (by omega) h1 h2 h3)))
    exact lp 64 0 (cO S r) x (fun x => x) rfl (uI_0 S r) hv hfr (fun a b ha => absurd ha (Nat.not_lt_zero _))
  have lp0 : ∀ (n9 k : Nat) (x : WS), k + n9 = 64 → (∀ j, j < k → x.1 113 j = nI j) → frL [113, 114] w x → Ex G 5 0 mX6_byJoining 2 [some (.ref 112), some (.ref 1), some (.int r), some (.int (nI k)), none] [] x (pBJ S r w) := by
    intro n9
    induction n9 with
    | zero =>
      intro k x hi9 hv hfr
      refine ex_s (fun _ => ev_iload_n dX6_byJoining_2 rfl) ?_
      refine ex_s (fun _ => ev_bipush (v := nI 64) dX6_byJoining_3 (by decide)) ?_
      refine ex_s (fun _ => ev_icmp_ge_t (tgt := 21) dX6_byJoining_5 (by decide) (nI_le (by omega) (by omega))) ?_
      obtain rfl : k = 64 := by omega
      refine ex_s (fun _ => ev_fg3) ?_
      exact hmain x hv hfr
    | succ n9 ih =>
      intro k x hi9 hv hfr
      refine ex_s (fun _ => ev_iload_n dX6_byJoining_2 rfl) ?_
      refine ex_s (fun _ => ev_bipush (v := nI 64) dX6_byJoining_3 (by decide)) ?_
      refine ex_s (fun _ => ev_icmp_ge_f (tgt := 21) dX6_byJoining_5 (by decide) (nI_ge (by omega) (by decide))) ?_
      refine ex_s (fun _ => ev_aload_n dX6_byJoining_8 rfl) ?_
      refine ex_s (fun _ => ev_getR fX6_9 dX6_byJoining_9 (by decide) sh112 rfl) ?_
      refine ex_s (fun _ => ev_iload_n dX6_byJoining_12 rfl) ?_
      refine ex_s (fun _ => ev_iload_n dX6_byJoining_13 rfl) ?_
      refine ex_s (fun _ => ev_iastore dX6_byJoining_14 rfl (by omega) rfl (by decide) sh113) ?_
      refine ex_s (fun _ => ev_iinc3 dX6_byJoining_15 (nI_inc _) (by decide) rfl) ?_
      refine ex_s (fun _ => ev_goto (tgt := 2) dX6_byJoining_18 (by decide)) ?_
      exact ih (k + 1) _ (by omega) (fun j hj => by
        show upd (x.1 113) k (nI k) j = nI j
        unfold upd
        by_cases e : j = k
        · rw [if_pos e, e]
        · rw [if_neg e]; exact hv j (by omega)) (frL_cs hfr (by decide) _)
  exact lp0 64 0 w rfl (fun j hj => absurd hj (Nat.not_lt_zero _)) frL_rf
