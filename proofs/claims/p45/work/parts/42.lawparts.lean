/-! the law's own count of parts -/
section
variable {S : ST}
/-- every cell has the number of a cell of its part, none above its own -/
def pI (S : ST) (h : Nat → Nat) : Prop := ∀ j, j < 64 → h j ≤ j ∧ rch S (h j) j
def fxp (S : ST) (r : Int32) (h : Nat → Nat) : Prop := ∀ a b, a < 64 → b < 64 → bsd a b = true → sO S a = r → sO S b = r → h a ≤ h b
def chk (S : ST) (r : Int32) (h : Nat → Nat) (i j : Nat) : Prop := ∀ a b, (a < i ∧ b < 64) ∨ (a = i ∧ b < j) → bsd a b = true → sO S a = r → sO S b = r → h a ≤ h b
theorem bsd_eg {a b : Nat} (ha : a < 64) (hb : b < 64) (h : bsd a b = true) (ho : sO S a = sO S b) : eg S a b := by
  rw [bsd_nb ⟨a, ha⟩ ⟨b, hb⟩] at h
  obtain ⟨dd, hd, h⟩ := List.any_eq_true.mp h
  exact ⟨ha, ho, dd, List.mem_range.mp hd, eq_of_beq h⟩
theorem eg_bsd {a b : Nat} (h : eg S a b) : bsd a b = true := by
  have hb := eg_lt h
  obtain ⟨ha, -, dd, hd, e⟩ := h
  rw [bsd_nb ⟨a, ha⟩ ⟨b, hb⟩]
  exact List.any_eq_true.mpr ⟨dd, List.mem_range.mpr hd, beq_iff_eq.mpr e⟩
theorem fx_cst {r : Int32} {h : Nat → Nat} (hf : fxp S r h) {a b : Nat} (ha : a < 64) (hr : sO S a = r) (hc : rch S a b) : h a = h b := by
  refine rch_in (P := fun y => h a = h y) hc rfl (fun z u hz hp e => ?_)
  have hz64 := rch_lt hz ha
  have hu64 := eg_lt e
  have oz : sO S z = r := (rch_o hz).symm.trans hr
  have ou : sO S u = r := e.2.1.symm.trans oz
  have h1 := hf z u hz64 hu64 (eg_bsd e) oz ou
  have h2 := hf u z hu64 hz64 (eg_bsd (eg_sym e)) ou oz
  omega
theorem fx_mr {r : Int32} {h : Nat → Nat} (hi : pI S h) (hf : fxp S r h) {k : Nat} (hk : k < 64) : (sO S k = r ∧ h k = k) ↔ mr S r k := by
  constructor
  · rintro ⟨h1, h2⟩
    refine ⟨h1, fun c hc hr => ?_⟩
    have h3 := fx_cst hf (by omega) ((rch_o hr).trans h1) hr
    have := (hi c (by omega)).1
    omega
  · rintro ⟨h1, h2⟩
    refine ⟨h1, ?_⟩
    obtain ⟨h3, h4⟩ := hi k hk
    rcases Nat.lt_or_ge (h k) k with h5 | h5
    · exact absurd h4 (h2 _ h5)
    · omega
theorem pI_up {h : Nat → Nat} (hi : pI S h) {r : Int32} {a b : Nat} (ha : a < 64) (hb : b < 64) (hn : bsd a b = true) (oa : sO S a = r) (ob : sO S b = r) (hl : h b < h a) : pI S (va_up h a (h b)) := by
  intro j hj
  unfold va_up
  by_cases e : j = a
  · rw [if_pos e, e]
    have := (hi a ha).1
    exact ⟨by omega, rch_st (hi b hb).2 (eg_sym (bsd_eg ha hb hn (oa.trans ob.symm)))⟩
  · rw [if_neg e]
    exact hi j hj
theorem cc_ct {r : Int32} {h : Nat → Nat} (hi : pI S h) (hf : fxp S r h) : ct (fun k => sO S k == r && h k == k) 64 = ccS S r := by
  unfold ccS
  refine ct_congr (fun k hk => ?_)
  by_cases e : mr S r k
  · rw [mrb_t e]
    obtain ⟨h1, h2⟩ := (fx_mr hi hf hk).mpr e
    simp [h1, h2]
  · rw [mrb_f e]
    apply Bool.eq_false_iff.mpr
    intro q
    obtain ⟨q1, q2⟩ := Bool.and_eq_true_iff.mp q
    exact e ((fx_mr hi hf hk).mp ⟨eq_of_beq q1, eq_of_beq q2⟩)
end
set_option maxRecDepth 8000 in
theorem gL_parts_ {G : GX} {w : WS} {S : ST} {a r : Nat} {f : Nat → Int32} (hm : arI G a 64 f ∈ w.2) (hf : ∀ j, j < 64 → f j = sO S j) : BigP G 21 70 mL_parts_ [dy a, .int (nI r)] w (fun r0 w2 => r0 = some (.int (nI (ccS S (nI r)))) ∧ w2 = w) := by
  refine bp_of (by decide +kernel) rfl (Nat.le_of_ble_eq_true rfl) ?_
  show Ev G 21 70 mL_parts_ 0 [some (dy a), some (.int (nI r)), none, none, none, none] [] w _
  obtain ⟨q, hq0⟩ := List.mem_iff_getElem?.mp hm
  refine ev_bipush (v := nI 64) dL_parts__0 (by decide) ?_
  refine ev_newaT (at_ := .int) (t := 0) (zz := .inl (fun _ => 0)) ac_i rfl rfl ra_i (fun _ => rfl) (by decide) (by decide) (by decide) dL_parts__2 (fun z => ?_)
  refine ev_ast2 dL_parts__4 (by decide) rfl ?_
  refine ev_iconst dL_parts__5 ic0 ?_
  refine ev_ist3 dL_parts__6 (by decide) rfl ?_
  have hq : ∀ (e : Nat × va_E), (w.2 ++ [e])[q]? = some (arI G a 64 f) := fun e => by rw [List.getElem?_append_left (List.getElem?_eq_some_iff.mp hq0).1]; exact hq0
  have ex : ∀ (h : Nat → Nat) (l4 l5 : Option Value), pI S h → fxp S (nI r) h → Ev G 21 0 mL_parts_ 25 [some (dy a), some (.int (nI r)), some (dy z), some (.int (bI false)), l4, l5] [] (w.1, w.2 ++ [arI G z 64 (fun j => nI (h j))]) (zP_ G (fun r0 w2 => r0 = some (.int (nI (ccS S (nI r)))) ∧ w2 = w)) := by
    intro h l4 l5 hi hx
    have hq := hq (arI G z 64 (fun j => nI (h j)))
    have lp : ∀ (n i : Nat), i + n = 64 → Ev G 21 0 mL_parts_ 119 [some (dy a), some (.int (nI r)), some (dy z), some (.int (bI false)), some (.int (nI (ct (fun k => sO S k == nI r && h k == k) i))), some (.int (nI i))] [] (w.1, w.2 ++ [arI G z 64 (fun j => nI (h j))]) (zP_ G (fun r0 w2 => r0 = some (.int (nI (ccS S (nI r)))) ∧ w2 = w)) := by
      intro n
      induction n with
      | zero =>
        intro i hn
        obtain rfl : i = 64 := by omega
        refine ev_iload dL_parts__119 rfl ?_
        refine ev_bipush (v := nI 64) dL_parts__121 (by decide) ?_
        refine ev_icmp_ge_t (tgt := 159) dL_parts__123 (by decide) (Int32.le_refl _) ?_
        refine ev_iload dL_parts__159 rfl ?_
        rw [cc_ct hi hx]
        refine ev_tl (T' := w.2) (List.sublist_append_left _ _) ?_
        exact ev_iretP dL_parts__161 rfl rfl ⟨rfl, rfl⟩
      | succ n ih =>
        intro i hn
        have hi64 : i < 64 := by omega
        have nx : ∀ x : Nat, ct (fun k => sO S k == nI r && h k == k) i + x = ct (fun k => sO S k == nI r && h k == k) (i + 1) → Ev G 21 0 mL_parts_ 150 [some (dy a), some (.int (nI r)), some (dy z), some (.int (bI false)), some (.int (nI (ct (fun k => sO S k == nI r && h k == k) i))), some (.int (nI i))] [.int (nI x), .int (nI (ct (fun k => sO S k == nI r && h k == k) i))] (w.1, w.2 ++ [arI G z 64 (fun j => nI (h j))]) (zP_ G (fun r0 w2 => r0 = some (.int (nI (ccS S (nI r)))) ∧ w2 = w)) := by
          intro x hx2
          refine ev_iadd dL_parts__150 ?_
          refine ev_top (nI_add _ _) ?_
          rw [hx2]
          refine ev_ist4 dL_parts__151 (by decide) rfl ?_
          refine ev_iinc5 dL_parts__153 (nI_inc _) (by decide) rfl ?_
          refine ev_goto (tgt := 119) dL_parts__156 (by decide) ?_
          exact ih (i + 1) (by omega)
        refine ev_iload dL_parts__119 rfl ?_
        refine ev_bipush (v := nI 64) dL_parts__121 (by decide) ?_
        refine ev_icmp_ge_f (tgt := 159) dL_parts__123 (by decide) (nI_ge hi64 (by decide)) ?_
        refine ev_iload dL_parts__126 rfl ?_
        refine ev_aload_n dL_parts__128 rfl ?_
        refine ev_iload dL_parts__129 rfl ?_
        refine ev_ialoadT (w := (w.1, w.2 ++ [arI G z 64 (fun j => nI (h j))])) (t := 0) hq dL_parts__131 rfl hi64 (by decide) ?_
        rw [hf i hi64]
        refine ev_iload_n dL_parts__132 rfl ?_
        by_cases e1 : sO S i = nI r
        · refine ev_icmp_ne_f (tgt := 149) dL_parts__133 (by decide) e1 ?_
          refine ev_aload_n dL_parts__136 rfl ?_
          refine ev_iload dL_parts__137 rfl ?_
          refine ev_ialoadT (w := (w.1, w.2 ++ [arI G z 64 (fun j => nI (h j))])) (t := 0) (f := fun j => nI (h j)) (j := i) tu0 dL_parts__139 rfl hi64 (by decide) ?_
          refine ev_iload dL_parts__140 rfl ?_
          by_cases e2 : h i = i
          · refine ev_icmp_ne_f (tgt := 149) dL_parts__142 (by decide) (by rw [e2]) ?_
            refine ev_iconst dL_parts__145 ic1 ?_
            refine ev_goto (tgt := 150) dL_parts__146 (by decide) ?_
            exact nx 1 (ct_t (by simp [e1, e2])).symm
          · refine ev_icmp_ne_t (tgt := 149) dL_parts__142 (by decide) (fun z => e2 ((nI_eq (by have := (hi i hi64).1; omega) (by omega)).mp z)) ?_
            refine ev_iconst dL_parts__149 ic0 ?_
            exact nx 0 (by rw [ct_f (by simp [e2])]; rfl)
        · refine ev_icmp_ne_t (tgt := 149) dL_parts__133 (by decide) e1 ?_
          refine ev_iconst dL_parts__149 ic0 ?_
          exact nx 0 (by rw [ct_f (by simp [e1])]; rfl)
    refine ev_iload_n dL_parts__25 rfl ?_
    refine ev_if_eq_t (tgt := 113) dL_parts__26 (by decide) rfl ?_
    refine ev_iconst dL_parts__113 ic0 ?_
    refine ev_ist4 dL_parts__114 (by decide) rfl ?_
    refine ev_iconst dL_parts__116 ic0 ?_
    refine ev_ist5 dL_parts__117 (by decide) rfl ?_
    exact lp 64 0 rfl
  have wl : ∀ (N : Nat) (h : Nat → Nat) (l4 l5 : Option Value), pI S h → sm h 64 < N → Ev G 21 0 mL_parts_ 25 [some (dy a), some (.int (nI r)), some (dy z), some (.int (bI true)), l4, l5] [] (w.1, w.2 ++ [arI G z 64 (fun j => nI (h j))]) (zP_ G (fun r0 w2 => r0 = some (.int (nI (ccS S (nI r)))) ∧ w2 = w)) := by
    intro N
    induction N with
    | zero => intro h l4 l5 _ hs; exact absurd hs (Nat.not_lt_zero _)
    | succ N IH =>
      intro h0 l40 l50 hi0 hs0
      have one : ∀ (n i : Nat) (F : Bool) (h : Nat → Nat) (l5 : Option Value), i + n = 64 → (pI S h ∧ ((F = false ∧ sm h 64 < N + 1 ∧ chk S (nI r) h i 0) ∨ (F = true ∧ sm h 64 < N))) → Ev G 21 0 mL_parts_ 34 [some (dy a), some (.int (nI r)), some (dy z), some (.int (bI F)), some (.int (nI i)), l5] [] (w.1, w.2 ++ [arI G z 64 (fun j => nI (h j))]) (zP_ G (fun r0 w2 => r0 = some (.int (nI (ccS S (nI r)))) ∧ w2 = w)) := by
        intro n
        induction n with
        | zero =>
          intro i F h l5 hn hQ
          obtain rfl : i = 64 := by omega
          refine ev_iload dL_parts__34 rfl ?_
          refine ev_bipush (v := nI 64) dL_parts__36 (by decide) ?_
          refine ev_icmp_ge_t (tgt := 110) dL_parts__38 (by decide) (Int32.le_refl _) ?_
          refine ev_goto (tgt := 25) dL_parts__110 (by decide) ?_
          obtain ⟨hi, ⟨rfl, -, hc⟩ | ⟨rfl, hs⟩⟩ := hQ
          · exact ex h _ _ hi (fun x y hx hy => hc x y (Or.inl ⟨hx, hy⟩))
          · exact IH h _ _ hi hs
        | succ n ih =>
          intro i F h l5 hn hQ
          have hi64 : i < 64 := by omega
          have two : ∀ (k j : Nat) (F : Bool) (h : Nat → Nat), j + k = 64 → (pI S h ∧ ((F = false ∧ sm h 64 < N + 1 ∧ chk S (nI r) h i j) ∨ (F = true ∧ sm h 64 < N))) → Ev G 21 0 mL_parts_ 44 [some (dy a), some (.int (nI r)), some (dy z), some (.int (bI F)), some (.int (nI i)), some (.int (nI j))] [] (w.1, w.2 ++ [arI G z 64 (fun j => nI (h j))]) (zP_ G (fun r0 w2 => r0 = some (.int (nI (ccS S (nI r)))) ∧ w2 = w)) := by
            intro k
            induction k with
            | zero =>
              intro j F h hk hQ
              obtain rfl : j = 64 := by omega
              refine ev_iload dL_parts__44 rfl ?_
              refine ev_bipush (v := nI 64) dL_parts__46 (by decide) ?_
              refine ev_icmp_ge_t (tgt := 104) dL_parts__48 (by decide) (Int32.le_refl _) ?_
              refine ev_iinc4 dL_parts__104 (nI_inc _) (by decide) rfl ?_
              refine ev_goto (tgt := 34) dL_parts__107 (by decide) ?_
              refine ih (i + 1) F h _ (by omega) ⟨hQ.1, ?_⟩
              rcases hQ.2 with ⟨e, hs, hc⟩ | hq2
              · refine Or.inl ⟨e, hs, fun x y hxy => hc x y ?_⟩
                rcases hxy with ⟨h1, h2⟩ | ⟨h1, h2⟩
                · rcases Nat.lt_or_ge x i with h3 | h3
                  · exact Or.inl ⟨h3, h2⟩
                  · exact Or.inr ⟨by omega, h2⟩
                · exact absurd h2 (Nat.not_lt_zero _)
              · exact Or.inr hq2
            | succ k ih2 =>
              intro j F h hk hQ
              have hj64 : j < 64 := by omega
              have hi := hQ.1
              have hq := hq (arI G z 64 (fun j => nI (h j)))
              have go98 : ∀ (F2 : Bool) (h2 : Nat → Nat), (pI S h2 ∧ ((F2 = false ∧ sm h2 64 < N + 1 ∧ chk S (nI r) h2 i (j + 1)) ∨ (F2 = true ∧ sm h2 64 < N))) → Ev G 21 0 mL_parts_ 98 [some (dy a), some (.int (nI r)), some (dy z), some (.int (bI F2)), some (.int (nI i)), some (.int (nI j))] [] (w.1, w.2 ++ [arI G z 64 (fun j => nI (h2 j))]) (zP_ G (fun r0 w2 => r0 = some (.int (nI (ccS S (nI r)))) ∧ w2 = w)) := by
                intro F2 h2 hQ2
                refine ev_iinc5 dL_parts__98 (nI_inc _) (by decide) rfl ?_
                refine ev_goto (tgt := 44) dL_parts__101 (by decide) ?_
                exact ih2 (j + 1) F2 h2 (by omega) hQ2
              have keep : (bsd i j = true → sO S i = nI r → sO S j = nI r → h i ≤ h j) → Ev G 21 0 mL_parts_ 98 [some (dy a), some (.int (nI r)), some (dy z), some (.int (bI F)), some (.int (nI i)), some (.int (nI j))] [] (w.1, w.2 ++ [arI G z 64 (fun j => nI (h j))]) (zP_ G (fun r0 w2 => r0 = some (.int (nI (ccS S (nI r)))) ∧ w2 = w)) := by
                intro hk2
                refine go98 F h ⟨hi, ?_⟩
                rcases hQ.2 with ⟨e, hs, hc⟩ | hq2
                · refine Or.inl ⟨e, hs, fun x y hxy b1 b2 b3 => ?_⟩
                  rcases hxy with h1 | ⟨h1, h2⟩
                  · exact hc x y (Or.inl h1) b1 b2 b3
                  · rcases Nat.lt_or_ge y j with h3 | h3
                    · exact hc x y (Or.inr ⟨h1, h3⟩) b1 b2 b3
                    · obtain rfl : y = j := by omega
                      subst h1
                      exact hk2 b1 b2 b3
                · exact Or.inr hq2
              refine ev_iload dL_parts__44 rfl ?_
              refine ev_bipush (v := nI 64) dL_parts__46 (by decide) ?_
              refine ev_icmp_ge_f (tgt := 104) dL_parts__48 (by decide) (nI_ge hj64 (by decide)) ?_
              refine ev_iload dL_parts__51 rfl ?_
              refine ev_iload dL_parts__53 rfl ?_
              refine ev_callS (w := (w.1, w.2 ++ [arI G z 64 (fun j => nI (h j))])) kL_200 (as := [.int (nI i), .int (nI j)]) (rest := []) (gL_areBeside hi64 hj64) dL_parts__55 rfl (by decide) (by decide) rfl ?_
              cases hb : bsd i j with
              | false =>
                refine ev_if_eq_t (tgt := 98) dL_parts__58 (by decide) rfl ?_
                exact keep (fun z => by rw [hb] at z; exact Bool.noConfusion z)
              | true =>
                refine ev_if_eq_f (tgt := 98) dL_parts__58 (by decide) (by decide) ?_
                refine ev_aload_n dL_parts__61 rfl ?_
                refine ev_iload dL_parts__62 rfl ?_
                refine ev_ialoadT (w := (w.1, w.2 ++ [arI G z 64 (fun j => nI (h j))])) (t := 0) hq dL_parts__64 rfl hi64 (by decide) ?_
                rw [hf i hi64]
                refine ev_iload_n dL_parts__65 rfl ?_
                by_cases e1 : sO S i = nI r
                · refine ev_icmp_ne_f (tgt := 98) dL_parts__66 (by decide) e1 ?_
                  refine ev_aload_n dL_parts__69 rfl ?_
                  refine ev_iload dL_parts__70 rfl ?_
                  refine ev_ialoadT (w := (w.1, w.2 ++ [arI G z 64 (fun j => nI (h j))])) (t := 0) hq dL_parts__72 rfl hj64 (by decide) ?_
                  rw [hf j hj64]
                  refine ev_iload_n dL_parts__73 rfl ?_
                  by_cases e2 : sO S j = nI r
                  · refine ev_icmp_ne_f (tgt := 98) dL_parts__74 (by decide) e2 ?_
                    refine ev_aload_n dL_parts__77 rfl ?_
                    refine ev_iload dL_parts__78 rfl ?_
                    refine ev_ialoadT (w := (w.1, w.2 ++ [arI G z 64 (fun j => nI (h j))])) (t := 0) (f := fun j => nI (h j)) (j := j) tu0 dL_parts__80 rfl hj64 (by decide) ?_
                    refine ev_aload_n dL_parts__81 rfl ?_
                    refine ev_iload dL_parts__82 rfl ?_
                    refine ev_ialoadT (w := (w.1, w.2 ++ [arI G z 64 (fun j => nI (h j))])) (t := 0) (f := fun j => nI (h j)) (j := i) tu0 dL_parts__84 rfl hi64 (by decide) ?_
                    have hli := (hi i hi64).1
                    have hlj := (hi j hj64).1
                    by_cases e3 : h i ≤ h j
                    · refine ev_icmp_ge_t (tgt := 98) dL_parts__85 (by decide) (Int32.not_lt.mp (nI_nlt e3 (by omega))) ?_
                      exact keep (fun _ _ _ => e3)
                    · refine ev_icmp_ge_f (tgt := 98) dL_parts__85 (by decide) (nI_ge (by omega) (by omega)) ?_
                      refine ev_aload_n dL_parts__88 rfl ?_
                      refine ev_iload dL_parts__89 rfl ?_
                      refine ev_aload_n dL_parts__91 rfl ?_
                      refine ev_iload dL_parts__92 rfl ?_
                      refine ev_ialoadT (w := (w.1, w.2 ++ [arI G z 64 (fun j => nI (h j))])) (t := 0) (f := fun j => nI (h j)) (j := j) tu0 dL_parts__94 rfl hj64 (by decide) ?_
                      refine ev_iastoreT (w := (w.1, w.2 ++ [arI G z 64 (fun j => nI (h j))])) (T2 := w.2 ++ [arI G z 64 (fun x => nI (va_up h i (h j) x))]) tu0 dL_parts__95 rfl hi64 (by decide) (by rw [tus]; congr 2; show arI G z 64 _ = arI G z 64 _; congr 1; funext x; unfold upd va_up; split <;> rfl) ?_
                      refine ev_iconst dL_parts__96 ic1 ?_
                      refine ev_ist3 dL_parts__97 (by decide) rfl ?_
                      refine go98 true (va_up h i (h j)) ⟨pI_up hi hi64 hj64 hb e1 e2 (by omega), Or.inr ⟨rfl, ?_⟩⟩
                      have hsm := sm_up (f := h) (a := i) (x := h j) (n := 64) hi64
                      rcases hQ.2 with ⟨-, hs, -⟩ | ⟨-, hs⟩ <;> omega
                  · refine ev_icmp_ne_t (tgt := 98) dL_parts__74 (by decide) e2 ?_
                    exact keep (fun _ _ z => absurd z e2)
                · refine ev_icmp_ne_t (tgt := 98) dL_parts__66 (by decide) e1 ?_
                  exact keep (fun _ z _ => absurd z e1)
          refine ev_iload dL_parts__34 rfl ?_
          refine ev_bipush (v := nI 64) dL_parts__36 (by decide) ?_
          refine ev_icmp_ge_f (tgt := 110) dL_parts__38 (by decide) (nI_ge hi64 (by decide)) ?_
          refine ev_iconst dL_parts__41 ic0 ?_
          refine ev_ist5 dL_parts__42 (by decide) rfl ?_
          exact two 64 0 F h rfl hQ
      refine ev_iload_n dL_parts__25 rfl ?_
      refine ev_if_eq_f (tgt := 113) dL_parts__26 (by decide) (by decide) ?_
      refine ev_iconst dL_parts__29 ic0 ?_
      refine ev_ist3 dL_parts__30 (by decide) rfl ?_
      refine ev_iconst dL_parts__31 ic0 ?_
      refine ev_ist4 dL_parts__32 (by decide) rfl ?_
      exact one 64 0 false h0 l50 rfl ⟨hi0, Or.inl ⟨rfl, hs0, fun x y hxy => by rcases hxy with ⟨h1, -⟩ | ⟨-, h2⟩ <;> first | exact absurd h1 (Nat.not_lt_zero _) | exact absurd h2 (Nat.not_lt_zero _)⟩⟩
  have init : ∀ (n i : Nat), i + n = 64 → Ev G 21 0 mL_parts_ 7 [some (dy a), some (.int (nI r)), some (dy z), some (.int (nI i)), none, none] [] (w.1, w.2 ++ [arI G z 64 (fun j => if j < i then nI j else 0)]) (zP_ G (fun r0 w2 => r0 = some (.int (nI (ccS S (nI r)))) ∧ w2 = w)) := by
    intro n
    induction n with
    | zero =>
      intro i hn
      obtain rfl : i = 64 := by omega
      refine ev_iload_n dL_parts__7 rfl ?_
      refine ev_bipush (v := nI 64) dL_parts__8 (by decide) ?_
      refine ev_icmp_ge_t (tgt := 23) dL_parts__10 (by decide) (Int32.le_refl _) ?_
      refine ev_iconst dL_parts__23 ic1 ?_
      refine ev_ist3 dL_parts__24 (by decide) rfl ?_
      have e : (fun j : Nat => if j < 64 then nI j else (0 : Int32)) = fun j => nI ((fun j : Nat => if j < 64 then j else 0) j) := by
        funext j
        by_cases h : j < 64
        · simp only [if_pos h]
        · simp only [if_neg h]
          rfl
      rw [e]
      exact wl (sm (fun j : Nat => if j < 64 then j else 0) 64 + 1) _ _ _ (fun j hj => by show (if j < 64 then j else 0) ≤ j ∧ rch S (if j < 64 then j else 0) j; rw [if_pos hj]; exact ⟨Nat.le_refl _, rch_rf⟩) (Nat.lt_succ_self _)
    | succ n ih =>
      intro i hn
      refine ev_iload_n dL_parts__7 rfl ?_
      refine ev_bipush (v := nI 64) dL_parts__8 (by decide) ?_
      refine ev_icmp_ge_f (tgt := 23) dL_parts__10 (by decide) (nI_ge (by omega) (by decide)) ?_
      refine ev_aload_n dL_parts__13 rfl ?_
      refine ev_iload_n dL_parts__14 rfl ?_
      refine ev_iload_n dL_parts__15 rfl ?_
      refine ev_iastoreT (w := (w.1, w.2 ++ [arI G z 64 (fun j => if j < i then nI j else 0)])) (T2 := w.2 ++ [arI G z 64 (fun j => if j < i + 1 then nI j else 0)]) tu0 dL_parts__16 rfl (by omega) (by decide) (by rw [up_s (g := nI)]; exact tus) ?_
      refine ev_iinc3 dL_parts__17 (nI_inc _) (by decide) rfl ?_
      refine ev_goto (tgt := 7) dL_parts__20 (by decide) ?_
      exact ih (i + 1) (by omega)
  exact ev_bu 0 (Nat.zero_le _) (init 64 0 rfl)
