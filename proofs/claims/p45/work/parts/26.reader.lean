/-! texts: the input, and what is taken out of it -/
def inA (n : Nat) (t : Nat → Nat) (w : WS) : Prop := w.1 104 1 = nI n ∧ n ≤ 60 ∧ ∀ i, i < n → w.1 105 i = nI (t i) ∧ 32 ≤ t i ∧ t i ≤ 126
theorem inA_fr {n : Nat} {t : Nat → Nat} {w w2 : WS} {L : List Nat} (h : inA n t w) (hf : frL L w w2) (h1 : 104 ∉ L) (h2 : 105 ∉ L) : inA n t w2 := by
  unfold inA at h ⊢
  rw [hf.1 _ h1, hf.1 _ h2]
  exact h
/-- the sign at a place -/
def sgv (n : Nat) (t : Nat → Nat) (p : Nat) : Int32 := if p < n then nI (t p) else -1
def tSg (n : Nat) (t : Nat → Nat) (p s : Nat) : Bool := decide (p < n ∧ t p = s)
def tDg (n : Nat) (t : Nat → Nat) (p : Nat) : Option Nat := if p < n ∧ 48 ≤ t p ∧ t p ≤ 57 then some (t p - 48) else none
def tDs (n : Nat) (t : Nat → Nat) (p : Nat) : Option Nat × Nat := match tDg n t p with
  | none => (none, p)
  | some a => match tDg n t (p + 1) with
    | none => (some a, p + 1)
    | some b => (some (a * 10 + b), p + 2)
/-- none: no realm is told; some none: that none is told -/
def tRm (n : Nat) (t : Nat → Nat) (p : Nat) (b : Bool) : Option (Option Nat) × Nat := if b = true ∧ p < n ∧ t p = 46 then (some none, p + 1) else if p < n ∧ 97 ≤ t p ∧ t p ≤ 100 then (some (some (t p - 97)), p + 1) else (none, p)
def dO_ (c : Nat) : Option Nat := if c = 110 then some 0 else if c = 101 then some 1 else if c = 115 then some 2 else if c = 119 then some 3 else none
def stp (n : Nat) (t : Nat → Nat) (p : Nat) : Option Nat := if p < n then dO_ (t p) else none
/-- how many steps stand at a place -/
def stN (n : Nat) (t : Nat → Nat) : Nat → Nat → Nat
  | 0, _ => 0
  | f + 1, p => if (stp n t p).isSome then stN n t f (p + 1) + 1 else 0
def stD (n : Nat) (t : Nat → Nat) (p k : Nat) : Nat := (stp n t (p + k)).getD 0
def cPa (n : Nat) (t : Nat → Nat) (p : Nat) : Option Cmd × Nat := match tDs n t p with
  | (none, r) => (none, r)
  | (some c, r) => match tRm n t r true with
    | (none, s) => (none, s)
    | (some z, s) => (some (.inl (c, oI z)), s)
def cSh (n : Nat) (t : Nat → Nat) (p : Nat) : Option Cmd × Nat := match tDs n t p with
  | (none, r) => (none, r)
  | (some c, r) => match tRm n t r false with
    | (none, s) => (none, s)
    | (some z, s) => (some (.inr (.inl (c, z.getD 0))), s)
def cRi (n : Nat) (t : Nat → Nat) (p : Nat) : Option Cmd × Nat := match tDs n t p with
  | (none, r) => (none, r)
  | (some c, r) => if tSg n t r 58 = true then (if 0 < stN n t 12 (r + 1) then (if tSg n t (r + 1 + stN n t 12 (r + 1)) 61 = true then (match tDs n t (r + 1 + stN n t 12 (r + 1) + 1) with
      | (none, s) => (none, s)
      | (some v, s) => (some (.inr (.inr (.inr (.inl (c, v, stN n t 12 (r + 1), stD n t (r + 1)))))), s)) else (none, r + 1 + stN n t 12 (r + 1))) else (none, r + 1 + stN n t 12 (r + 1))) else (none, r)
def cDr (n : Nat) (t : Nat → Nat) (p : Nat) : Option Cmd × Nat := match tDs n t p with
  | (none, r) => (none, r)
  | (some c, r) => if tSg n t r 47 = true then (match tDs n t (r + 1) with
      | (none, s) => (none, s)
      | (some v, s) => (some (.inr (.inr (.inr (.inr (.inr (.inl (c, v))))))), s)) else (none, r)
def cDg (n : Nat) (t : Nat → Nat) (p : Nat) (f : Nat → Cmd) : Option Cmd × Nat := match tDg n t p with
  | none => (none, p)
  | some a => (some (f a), p + 1)
/-- a command at a place, and the place behind it, or where it can't go on -/
def cmdAt (n : Nat) (t : Nat → Nat) (p : Nat) : Option Cmd × Nat :=
  if ¬ p < n then (none, p)
  else if t p = 112 then cPa n t (p + 1)
  else if t p = 115 then cSh n t (p + 1)
  else if t p = 114 then cRi n t (p + 1)
  else if t p = 100 then cDr n t (p + 1)
  else if t p = 109 then cDg n t (p + 1) (fun a => .inr (.inr (.inl a)))
  else if t p = 107 then cDg n t (p + 1) (fun a => .inr (.inr (.inr (.inr (.inl a)))))
  else if t p = 102 then cDg n t (p + 1) (fun a => .inr (.inr (.inr (.inr (.inr (.inr a))))))
  else (none, p)
theorem tDg_lt {n : Nat} {t : Nat → Nat} {p a : Nat} (h : tDg n t p = some a) : a < 10 ∧ p < n := by
  unfold tDg at h
  split at h
  · cases h; omega
  · cases h
theorem tDs_ok {n : Nat} {t : Nat → Nat} {p r : Nat} {x : Option Nat} (h : tDs n t p = (x, r)) (hp : p ≤ n) : p ≤ r ∧ r ≤ n ∧ ∀ c, x = some c → c < 100 ∧ p < r := by
  unfold tDs at h
  cases e1 : tDg n t p with
  | none =>
    rw [e1] at h
    cases h
    exact ⟨Nat.le_refl _, hp, fun c hc => by cases hc⟩
  | some a =>
    rw [e1] at h
    have h1 := tDg_lt e1
    cases e2 : tDg n t (p + 1) with
    | none =>
      simp only [e2] at h
      cases h
      exact ⟨by omega, by omega, fun c hc => by cases hc; omega⟩
    | some b =>
      simp only [e2] at h
      have h2 := tDg_lt e2
      cases h
      exact ⟨by omega, by omega, fun c hc => by cases hc; omega⟩
theorem tRm_ok {n : Nat} {t : Nat → Nat} {p s : Nat} {b : Bool} {z : Option (Option Nat)} (h : tRm n t p b = (z, s)) (hp : p ≤ n) : p ≤ s ∧ s ≤ n ∧ (∀ k, z = some (some k) → k < 4) ∧ (z = some none → b = true) ∧ (z ≠ none → p < s) := by
  unfold tRm at h
  split at h
  · rename_i q
    cases h
    exact ⟨by omega, by omega, fun k hk => (by cases hk), fun _ => q.1, fun _ => by omega⟩
  · split at h
    · cases h
      exact ⟨by omega, by omega, fun k hk => (by cases hk; omega), fun hk => (by cases hk), fun _ => by omega⟩
    · cases h
      exact ⟨Nat.le_refl _, hp, fun k hk => (by cases hk), fun hk => (by cases hk), fun q => absurd rfl q⟩
theorem dO_lt {c d : Nat} (h : dO_ c = some d) : d < 4 := by
  unfold dO_ at h
  repeat' split at h
  all_goals first | (cases h; done) | (cases h; omega)
theorem stp_lt {n : Nat} {t : Nat → Nat} {p d : Nat} (h : stp n t p = some d) : d < 4 ∧ p < n := by
  unfold stp at h
  split at h
  · exact ⟨dO_lt h, by assumption⟩
  · cases h
theorem stN_le {n : Nat} {t : Nat → Nat} {f : Nat} : ∀ {p : Nat}, p ≤ n → stN n t f p ≤ f ∧ p + stN n t f p ≤ n := by
  induction f with
  | zero => intro p hp; exact ⟨Nat.le_refl _, hp⟩
  | succ f ih =>
    intro p hp
    unfold stN
    cases e : stp n t p with
    | none => simp; exact hp
    | some d =>
      have := ih (p := p + 1) (stp_lt e).2
      simp only [Option.isSome_some, if_true]
      omega
theorem stN_at {n : Nat} {t : Nat → Nat} {f : Nat} : ∀ {p k : Nat}, k < stN n t f p → ∃ d, stp n t (p + k) = some d := by
  induction f with
  | zero => intro p k h; exact absurd h (Nat.not_lt_zero _)
  | succ f ih =>
    intro p k h
    unfold stN at h
    cases e : stp n t p with
    | none => rw [e] at h; exact absurd h (Nat.not_lt_zero _)
    | some d =>
      rw [e] at h
      simp only [Option.isSome_some, if_true] at h
      cases k with
      | zero => exact ⟨d, e⟩
      | succ k =>
        obtain ⟨d2, h2⟩ := ih (p := p + 1) (k := k) (by omega)
        exact ⟨d2, by rw [← h2]; congr 1; omega⟩
theorem stD_at {n : Nat} {t : Nat → Nat} {f p k : Nat} (h : k < stN n t f p) : stp n t (p + k) = some (stD n t p k) ∧ stD n t p k < 4 := by
  obtain ⟨d, hd⟩ := stN_at h
  unfold stD
  rw [hd]
  exact ⟨rfl, (stp_lt hd).1⟩
/-- a whole command keeps the bounds, and goes on by two signs at the least -/
theorem cmdAt_ok {n : Nat} {t : Nat → Nat} {p r : Nat} {x : Option Cmd} (h : cmdAt n t p = (x, r)) (hp : p ≤ n) : p ≤ r ∧ r ≤ n ∧ ∀ c, x = some c → okC c ∧ p + 2 ≤ r := by
  unfold cmdAt at h
  split at h
  · cases h
    exact ⟨Nat.le_refl _, hp, fun c hc => by cases hc⟩
  · rename_i hpn
    have hpn : p < n := Decidable.not_not.mp hpn
    have dg : ∀ (f : Nat → Cmd), (∀ a, a < 10 → okC (f a)) → cDg n t (p + 1) f = (x, r) → p ≤ r ∧ r ≤ n ∧ ∀ c, x = some c → okC c ∧ p + 2 ≤ r := by
      intro f hf h
      unfold cDg at h
      cases e : tDg n t (p + 1) with
      | none =>
        rw [e] at h
        cases h
        exact ⟨by omega, by omega, fun c hc => by cases hc⟩
      | some a =>
        rw [e] at h
        have := tDg_lt e
        cases h
        exact ⟨by omega, by omega, fun c hc => by cases hc; exact ⟨hf a this.1, by omega⟩⟩
    split at h
    · unfold cPa at h
      obtain ⟨y, q, e⟩ : ∃ y q, tDs n t (p + 1) = (y, q) := ⟨_, _, rfl⟩
      obtain ⟨b1, b2, b3⟩ := tDs_ok e (by omega)
      rw [e] at h
      cases y with
      | none =>
        cases h
        exact ⟨by omega, by omega, fun c hc => by cases hc⟩
      | some v =>
        obtain ⟨z, s, e2⟩ : ∃ z s, tRm n t q true = (z, s) := ⟨_, _, rfl⟩
        obtain ⟨d1, d2, d3, d4, d5⟩ := tRm_ok e2 b2
        simp only [e2] at h
        cases z with
        | none =>
          cases h
          exact ⟨by omega, by omega, fun c hc => by cases hc⟩
        | some z =>
          cases h
          have := d5 (fun q => by cases q)
          have := b3 v rfl
          refine ⟨by omega, by omega, fun c hc => ?_⟩
          cases hc
          refine ⟨⟨this.1, ?_⟩, by omega⟩
          cases z with
          | none => exact Or.inl rfl
          | some k => exact Or.inr ⟨k, d3 k rfl, rfl⟩
    · split at h
      · unfold cSh at h
        obtain ⟨y, q, e⟩ : ∃ y q, tDs n t (p + 1) = (y, q) := ⟨_, _, rfl⟩
        obtain ⟨b1, b2, b3⟩ := tDs_ok e (by omega)
        rw [e] at h
        cases y with
        | none =>
          cases h
          exact ⟨by omega, by omega, fun c hc => by cases hc⟩
        | some v =>
          obtain ⟨z, s, e2⟩ : ∃ z s, tRm n t q false = (z, s) := ⟨_, _, rfl⟩
          obtain ⟨d1, d2, d3, d4, d5⟩ := tRm_ok e2 b2
          simp only [e2] at h
          cases z with
          | none =>
            cases h
            exact ⟨by omega, by omega, fun c hc => by cases hc⟩
          | some z =>
            cases h
            have := d5 (fun q => by cases q)
            have := b3 v rfl
            refine ⟨by omega, by omega, fun c hc => ?_⟩
            cases hc
            refine ⟨⟨this.1, ?_⟩, by omega⟩
            cases z with
            | none => exact (show (0 : Nat) < 4 by decide)
            | some k => exact d3 k rfl
      · split at h
        · unfold cRi at h
          obtain ⟨y, q, e⟩ : ∃ y q, tDs n t (p + 1) = (y, q) := ⟨_, _, rfl⟩
          obtain ⟨b1, b2, b3⟩ := tDs_ok e (by omega)
          rw [e] at h
          cases y with
          | none =>
            cases h
            exact ⟨by omega, by omega, fun c hc => by cases hc⟩
          | some v =>
            simp only at h
            split at h
            · rename_i h58
              have h58 := of_decide_eq_true h58
              have hl := stN_le (n := n) (t := t) (f := 12) (p := q + 1) (by omega)
              split at h
              · rename_i h0
                split at h
                · rename_i h61
                  have h61 := of_decide_eq_true h61
                  obtain ⟨y2, s, e2⟩ : ∃ y s, tDs n t (q + 1 + stN n t 12 (q + 1) + 1) = (y, s) := ⟨_, _, rfl⟩
                  obtain ⟨f1, f2, f3⟩ := tDs_ok e2 (by omega)
                  rw [e2] at h
                  cases y2 with
                  | none =>
                    cases h
                    exact ⟨by omega, by omega, fun c hc => by cases hc⟩
                  | some v2 =>
                    cases h
                    refine ⟨by omega, by omega, fun c hc => ?_⟩
                    cases hc
                    exact ⟨⟨(b3 v rfl).1, (f3 v2 rfl).1, h0, hl.1, fun k hk => (stD_at hk).2⟩, by omega⟩
                · cases h
                  exact ⟨by omega, by omega, fun c hc => by cases hc⟩
              · cases h
                exact ⟨by omega, by omega, fun c hc => by cases hc⟩
            · cases h
              exact ⟨by omega, by omega, fun c hc => by cases hc⟩
        · split at h
          · unfold cDr at h
            obtain ⟨y, q, e⟩ : ∃ y q, tDs n t (p + 1) = (y, q) := ⟨_, _, rfl⟩
            obtain ⟨b1, b2, b3⟩ := tDs_ok e (by omega)
            rw [e] at h
            cases y with
            | none =>
              cases h
              exact ⟨by omega, by omega, fun c hc => by cases hc⟩
            | some v =>
              simp only at h
              split at h
              · rename_i h47
                have h47 := of_decide_eq_true h47
                obtain ⟨y2, s, e2⟩ : ∃ y s, tDs n t (q + 1) = (y, s) := ⟨_, _, rfl⟩
                obtain ⟨f1, f2, f3⟩ := tDs_ok e2 (by omega)
                rw [e2] at h
                cases y2 with
                | none =>
                  cases h
                  exact ⟨by omega, by omega, fun c hc => by cases hc⟩
                | some v2 =>
                  cases h
                  refine ⟨by omega, by omega, fun c hc => ?_⟩
                  cases hc
                  exact ⟨⟨(b3 v rfl).1, (f3 v2 rfl).1⟩, by omega⟩
              · cases h
                exact ⟨by omega, by omega, fun c hc => by cases hc⟩
          · split at h
            · refine dg _ (fun a ha => ?_) h
              exact ha
            · split at h
              · refine dg _ (fun a ha => ?_) h
                exact ha
              · split at h
                · refine dg _ (fun a ha => ?_) h
                  exact ha
                · cases h
                  exact ⟨by omega, by omega, fun c hc => by cases hc⟩
/-! the reader -/
def wPl (w : WS) (q : Nat) : WS := cs_ w 106 (upd (w.1 106) 1 (nI q))
theorem wPl_id {w : WS} {p : Nat} (h : w.1 106 1 = nI p) : wPl w p = w := by
  apply ws_eq
  · intro k
    unfold wPl
    by_cases e : k = 106
    · subst e
      rw [cs_same]
      funext j
      unfold upd
      split
      · rename_i q; rw [q]; exact h.symm
      · rfl
    · rw [cs_ne _ _ e]
  · rfl
theorem wPl_wPl (w : WS) (a b : Nat) : wPl (wPl w a) b = wPl w b := by
  unfold wPl
  rw [cs_cs, cs_same]
  congr 1
  funext j
  unfold upd
  split <;> rfl
theorem fr_wPl {w : WS} {q : Nat} : frL [102, 103, 106] w (wPl w q) := frL_cs frL_rf (by decide) _
theorem sgv_ne {n : Nat} {t : Nat → Nat} {w : WS} (h : inA n t w) {p s : Nat} (hs : s < 2 ^ 31) : sgv n t p = nI s ↔ tSg n t p s = true := by
  unfold sgv tSg
  by_cases e : p < n
  · have := (h.2.2 p e).2
    rw [if_pos e, nI_eq (by omega) hs, decide_eq_true_iff]
    exact ⟨fun q => ⟨e, q⟩, fun q => q.2⟩
  · rw [if_neg e, decide_eq_true_iff]
    exact ⟨fun q => absurd q.symm (nI_m1 hs), fun q => absurd q.1 e⟩
theorem dig_y {n : Nat} {t : Nat → Nat} {p a : Nat} (h : tDg n t p = some a) : sgv n t p - nI 48 = nI a := by
  unfold tDg at h
  split at h
  · rename_i q
    cases h
    unfold sgv
    rw [if_pos q.1, pk_sub q.2.1]
  · cases h
theorem dig_n {n : Nat} {t : Nat → Nat} {w : WS} (hi : inA n t w) {p : Nat} (h : tDg n t p = none) : out_ 10 (sgv n t p - nI 48) := by
  unfold tDg at h
  split at h
  · cases h
  · rename_i q
    unfold sgv
    by_cases e : p < n
    · have hb := (hi.2.2 p e).2
      rw [if_pos e]
      rcases Nat.lt_or_ge (t p) 48 with f | f
      · exact Or.inl (pk_sneg (by decide) f)
      · rw [pk_sub f]
        exact Or.inr (nI_le (by omega) (by omega))
    · rw [if_neg e]
      exact Or.inl (by decide)
theorem rlm_n {n : Nat} {t : Nat → Nat} {w : WS} (hi : inA n t w) {p : Nat} (h : ¬ (p < n ∧ 97 ≤ t p ∧ t p ≤ 100)) : out_ 4 (sgv n t p - nI 97) := by
  unfold sgv
  by_cases e : p < n
  · have hb := (hi.2.2 p e).2
    rw [if_pos e]
    rcases Nat.lt_or_ge (t p) 97 with f | f
    · exact Or.inl (pk_sneg (by decide) f)
    · rw [pk_sub f]
      exact Or.inr (nI_le (by omega) (by omega))
  · rw [if_neg e]
    exact Or.inl (by decide)
theorem nI_gt9 {v : Int32} (h : nI 10 ≤ v) : ¬ v ≤ nI 9 := fun q => absurd (Int32.le_trans h q) (by decide)
theorem oI_ne {x : Option Nat} (h : ∀ k, x = some k → k < 2 ^ 31) : oI x = -1 ↔ x = none := oI_none h
theorem qX7_sgn {G : GX} {w : WS} {n : Nat} {t : Nat → Nat} (hi : inA n t w) {p : Nat} (hpn : p ≤ n) : Big G 1 0 mX9_signAt [.ref 104, .int (nI p)] w (.inl (some (.int (sgv n t p)))) w := by
  unfold sgv
  by_cases e : p < n
  · rw [if_pos e, ← (hi.2.2 p e).1]
    exact qX9_signAt_104y hi.1 hi.2.1 e
  · rw [if_neg e]
    exact qX9_signAt_104n hi.1 (Or.inr (nI_le (by omega) (by have := hi.2.1; omega)))
set_option maxRecDepth 4000 in
theorem qX7_rewind {G : GX} {w : WS} : Big G 1 0 mX7_rewind [.ref 106] w (.inl none) (wPl w 0) := by
  refine big_of (by decide +kernel) (Nat.le_of_ble_eq_true rfl) ?_
  show Ev G 1 0 mX7_rewind 0 [some (.ref 106)] [] w _
  refine ev_aload_n dX7_rewind_0 rfl ?_
  refine ev_iconst dX7_rewind_1 ic0 ?_
  refine ev_put fX7_18 dX7_rewind_2 rfl rfl (by decide) sh106 rfl ?_
  exact ev_vret dX7_rewind_5 rfl rfl rfl
set_option maxRecDepth 4000 in
theorem qX7_takeSign_y {G : GX} {w : WS} {n : Nat} {t : Nat → Nat} (hi : inA n t w) {p : Nat} (hp : w.1 106 1 = nI p) (hpn : p ≤ n) {s : Nat} (hs : s < 2 ^ 31) (h : tSg n t p s = true) : Big G 2 0 mX7_takeSign [.ref 106, .int (nI s)] w (.inl (some (.int (1)))) (wPl w (p + 1)) := by
  refine big_of (by decide +kernel) (Nat.le_of_ble_eq_true rfl) ?_
  show Ev G 2 0 mX7_takeSign 0 [some (.ref 106), some (.int (nI s))] [] w _
  refine ev_aload_n dX7_takeSign_0 rfl ?_
  refine ev_getR fX7_12 dX7_takeSign_1 (by decide) sh106 rfl ?_
  refine ev_aload_n dX7_takeSign_4 rfl ?_
  refine ev_getI fX7_18 dX7_takeSign_5 (by decide) sh106 rfl ?_
  refine ev_top hp ?_
  refine ev_callV kX7_39 co104 (qX7_sgn hi hpn) dX7_takeSign_8 rfl (by decide) (by decide) rfl ?_
  refine ev_iload_n dX7_takeSign_11 rfl ?_
  refine ev_icmp_eq_t (tgt := 17) dX7_takeSign_12 (by decide) ((sgv_ne hi hs).mpr h) ?_
  refine ev_aload_n dX7_takeSign_17 rfl ?_
  refine ev_dup dX7_takeSign_18 rfl ?_
  refine ev_getI fX7_18 dX7_takeSign_19 (by decide) sh106 rfl ?_
  refine ev_top hp ?_
  refine ev_iconst dX7_takeSign_22 ic1 ?_
  refine ev_iadd dX7_takeSign_23 ?_
  refine ev_top (nI_add _ _) ?_
  refine ev_put fX7_18 dX7_takeSign_24 rfl rfl (by decide) sh106 rfl ?_
  refine ev_iconst dX7_takeSign_27 ic1 ?_
  exact ev_iret dX7_takeSign_28 rfl rfl rfl rfl
set_option maxRecDepth 4000 in
theorem qX7_takeSign_n {G : GX} {w : WS} {n : Nat} {t : Nat → Nat} (hi : inA n t w) {p : Nat} (hp : w.1 106 1 = nI p) (hpn : p ≤ n) {s : Nat} (hs : s < 2 ^ 31) (h : tSg n t p s = false) : Big G 2 0 mX7_takeSign [.ref 106, .int (nI s)] w (.inl (some (.int (0)))) w := by
  refine big_of (by decide +kernel) (Nat.le_of_ble_eq_true rfl) ?_
  show Ev G 2 0 mX7_takeSign 0 [some (.ref 106), some (.int (nI s))] [] w _
  refine ev_aload_n dX7_takeSign_0 rfl ?_
  refine ev_getR fX7_12 dX7_takeSign_1 (by decide) sh106 rfl ?_
  refine ev_aload_n dX7_takeSign_4 rfl ?_
  refine ev_getI fX7_18 dX7_takeSign_5 (by decide) sh106 rfl ?_
  refine ev_top hp ?_
  refine ev_callV kX7_39 co104 (qX7_sgn hi hpn) dX7_takeSign_8 rfl (by decide) (by decide) rfl ?_
  refine ev_iload_n dX7_takeSign_11 rfl ?_
  refine ev_icmp_eq_f (tgt := 17) dX7_takeSign_12 (by decide) (fun q => by rw [(sgv_ne hi hs).mp q] at h; cases h) ?_
  refine ev_iconst dX7_takeSign_15 ic0 ?_
  exact ev_iret dX7_takeSign_16 rfl (by decide) rfl rfl
/-- the place behind a sign, if it is there -/
def pSg (n : Nat) (t : Nat → Nat) (p s : Nat) : Nat := if tSg n t p s = true then p + 1 else p
theorem qX7_takeSign {G : GX} {w : WS} {n : Nat} {t : Nat → Nat} (hi : inA n t w) {p : Nat} (hp : w.1 106 1 = nI p) (hpn : p ≤ n) {s : Nat} (hs : s < 2 ^ 31) : Big G 2 0 mX7_takeSign [.ref 106, .int (nI s)] w (.inl (some (.int (bI (tSg n t p s))))) (wPl w (pSg n t p s)) := by
  unfold pSg
  cases h : tSg n t p s with
  | true => exact qX7_takeSign_y hi hp hpn hs h
  | false => rw [if_neg (by decide), wPl_id hp]; exact qX7_takeSign_n hi hp hpn hs h
set_option maxRecDepth 4000 in
theorem qX7_takeDigit_y {G : GX} {w : WS} {n : Nat} {t : Nat → Nat} (hi : inA n t w) {p : Nat} (hp : w.1 106 1 = nI p) (hpn : p ≤ n) {a : Nat} (h : tDg n t p = some a) : Big G 2 0 mX7_takeDigit [.ref 106] w (.inl (some (.int (nI a)))) (wPl w (p + 1)) := by
  refine big_of (by decide +kernel) (Nat.le_of_ble_eq_true rfl) ?_
  have ha := (tDg_lt h).1
  show Ev G 2 0 mX7_takeDigit 0 [some (.ref 106), none] [] w _
  refine ev_aload_n dX7_takeDigit_0 rfl ?_
  refine ev_getR fX7_12 dX7_takeDigit_1 (by decide) sh106 rfl ?_
  refine ev_aload_n dX7_takeDigit_4 rfl ?_
  refine ev_getI fX7_18 dX7_takeDigit_5 (by decide) sh106 rfl ?_
  refine ev_top hp ?_
  refine ev_callV kX7_39 co104 (qX7_sgn hi hpn) dX7_takeDigit_8 rfl (by decide) (by decide) rfl ?_
  refine ev_bipush (v := nI 48) dX7_takeDigit_11 (by decide) ?_
  refine ev_isub dX7_takeDigit_13 ?_
  refine ev_top (dig_y h) ?_
  refine ev_ist1 dX7_takeDigit_14 (by decide) rfl ?_
  refine ev_iload_n dX7_takeDigit_15 rfl ?_
  refine ev_if_lt_f (tgt := 25) dX7_takeDigit_16 (by decide) (nI_pos (by omega)) ?_
  refine ev_iload_n dX7_takeDigit_19 rfl ?_
  refine ev_bipush (v := nI 9) dX7_takeDigit_20 (by decide) ?_
  refine ev_icmp_le_t (tgt := 27) dX7_takeDigit_22 (by decide) (nI_le (by omega) (by decide)) ?_
  refine ev_aload_n dX7_takeDigit_27 rfl ?_
  refine ev_dup dX7_takeDigit_28 rfl ?_
  refine ev_getI fX7_18 dX7_takeDigit_29 (by decide) sh106 rfl ?_
  refine ev_top hp ?_
  refine ev_iconst dX7_takeDigit_32 ic1 ?_
  refine ev_iadd dX7_takeDigit_33 ?_
  refine ev_top (nI_add _ _) ?_
  refine ev_put fX7_18 dX7_takeDigit_34 rfl rfl (by decide) sh106 rfl ?_
  refine ev_iload_n dX7_takeDigit_37 rfl ?_
  exact ev_iret dX7_takeDigit_38 rfl rfl rfl rfl
set_option maxRecDepth 4000 in
theorem qX7_takeDigit_n {G : GX} {w : WS} {n : Nat} {t : Nat → Nat} (hi : inA n t w) {p : Nat} (hp : w.1 106 1 = nI p) (hpn : p ≤ n) (h : tDg n t p = none) : Big G 2 0 mX7_takeDigit [.ref 106] w (.inl (some (.int (-1)))) w := by
  refine big_of (by decide +kernel) (Nat.le_of_ble_eq_true rfl) ?_
  have hd := dig_n hi h
  show Ev G 2 0 mX7_takeDigit 0 [some (.ref 106), none] [] w _
  refine ev_aload_n dX7_takeDigit_0 rfl ?_
  refine ev_getR fX7_12 dX7_takeDigit_1 (by decide) sh106 rfl ?_
  refine ev_aload_n dX7_takeDigit_4 rfl ?_
  refine ev_getI fX7_18 dX7_takeDigit_5 (by decide) sh106 rfl ?_
  refine ev_top hp ?_
  refine ev_callV kX7_39 co104 (qX7_sgn hi hpn) dX7_takeDigit_8 rfl (by decide) (by decide) rfl ?_
  refine ev_bipush (v := nI 48) dX7_takeDigit_11 (by decide) ?_
  refine ev_isub dX7_takeDigit_13 ?_
  refine ev_ist1 dX7_takeDigit_14 (by decide) rfl ?_
  refine ev_iload_n dX7_takeDigit_15 rfl ?_
  refine ev_if_lt (tgt := 25) dX7_takeDigit_16 (by decide) (fun hc16 => ?_) (fun hc16 => ?_)
  · refine ev_iconst dX7_takeDigit_25 icm1 ?_
    exact ev_iret dX7_takeDigit_26 rfl rfl rfl rfl
  · refine ev_iload_n dX7_takeDigit_19 rfl ?_
    refine ev_bipush (v := nI 9) dX7_takeDigit_20 (by decide) ?_
    refine ev_icmp_le_f (tgt := 27) dX7_takeDigit_22 (by decide) (nI_gt9 (hd.resolve_left hc16)) ?_
    refine ev_iconst dX7_takeDigit_25 icm1 ?_
    exact ev_iret dX7_takeDigit_26 rfl rfl rfl rfl
def pDg (n : Nat) (t : Nat → Nat) (p : Nat) : Nat := if (tDg n t p).isSome then p + 1 else p
theorem qX7_takeDigit {G : GX} {w : WS} {n : Nat} {t : Nat → Nat} (hi : inA n t w) {p : Nat} (hp : w.1 106 1 = nI p) (hpn : p ≤ n) : Big G 2 0 mX7_takeDigit [.ref 106] w (.inl (some (.int (oI (tDg n t p))))) (wPl w (pDg n t p)) := by
  unfold pDg
  cases h : tDg n t p with
  | some a => exact qX7_takeDigit_y hi hp hpn h
  | none => rw [if_neg (by decide), wPl_id hp]; exact qX7_takeDigit_n hi hp hpn h
set_option maxRecDepth 4000 in
theorem qX7_takeDigits_n {G : GX} {w : WS} {n : Nat} {t : Nat → Nat} (hi : inA n t w) {p : Nat} (hp : w.1 106 1 = nI p) (hpn : p ≤ n) (h1 : tDg n t p = none) : Big G 3 0 mX7_takeDigits [.ref 106] w (.inl (some (.int (-1)))) w := by
  refine big_of (by decide +kernel) (Nat.le_of_ble_eq_true rfl) ?_
  show Ev G 3 0 mX7_takeDigits 0 [some (.ref 106), none, none] [] w _
  refine ev_aload_n dX7_takeDigits_0 rfl ?_
  refine ev_callV kX7_59 co106 (qX7_takeDigit_n hi hp hpn h1) dX7_takeDigits_1 rfl (by decide) (by decide) rfl ?_
  refine ev_ist1 dX7_takeDigits_4 (by decide) rfl ?_
  refine ev_iload_n dX7_takeDigits_5 rfl ?_
  refine ev_iconst dX7_takeDigits_6 icm1 ?_
  refine ev_icmp_ne_f (tgt := 12) dX7_takeDigits_7 (by decide) rfl ?_
  refine ev_iconst dX7_takeDigits_10 icm1 ?_
  exact ev_iret dX7_takeDigits_11 rfl rfl rfl rfl
set_option maxRecDepth 4000 in
theorem qX7_takeDigits_1 {G : GX} {w : WS} {n : Nat} {t : Nat → Nat} (hi : inA n t w) {p : Nat} (hp : w.1 106 1 = nI p) (hpn : p ≤ n) {a : Nat} (h1 : tDg n t p = some a) (h2 : tDg n t (p + 1) = none) : Big G 3 0 mX7_takeDigits [.ref 106] w (.inl (some (.int (nI a)))) (wPl w (p + 1)) := by
  refine big_of (by decide +kernel) (Nat.le_of_ble_eq_true rfl) ?_
  have ha := tDg_lt h1
  show Ev G 3 0 mX7_takeDigits 0 [some (.ref 106), none, none] [] w _
  refine ev_aload_n dX7_takeDigits_0 rfl ?_
  refine ev_callV kX7_59 co106 (qX7_takeDigit_y hi hp hpn h1) dX7_takeDigits_1 rfl (by decide) (by decide) rfl ?_
  refine ev_ist1 dX7_takeDigits_4 (by decide) rfl ?_
  refine ev_iload_n dX7_takeDigits_5 rfl ?_
  refine ev_iconst dX7_takeDigits_6 icm1 ?_
  refine ev_icmp_ne_t (tgt := 12) dX7_takeDigits_7 (by decide) (nI_m1 (by omega)) ?_
  refine ev_aload_n dX7_takeDigits_12 rfl ?_
  refine ev_callV kX7_59 co106 (qX7_takeDigit_n (w := wPl w (p + 1)) (p := p + 1) hi rfl (by omega) h2) dX7_takeDigits_13 rfl (by decide) (by decide) rfl ?_
  refine ev_ist2 dX7_takeDigits_16 (by decide) rfl ?_
  refine ev_iload_n dX7_takeDigits_17 rfl ?_
  refine ev_iconst dX7_takeDigits_18 icm1 ?_
  refine ev_icmp_ne_f (tgt := 26) dX7_takeDigits_19 (by decide) rfl ?_
  refine ev_iload_n dX7_takeDigits_22 rfl ?_
  refine ev_goto (tgt := 32) dX7_takeDigits_23 (by decide) ?_
  exact ev_iret dX7_takeDigits_32 rfl rfl rfl rfl
set_option maxRecDepth 4000 in
theorem qX7_takeDigits_2 {G : GX} {w : WS} {n : Nat} {t : Nat → Nat} (hi : inA n t w) {p : Nat} (hp : w.1 106 1 = nI p) (hpn : p ≤ n) {a b : Nat} (h1 : tDg n t p = some a) (h2 : tDg n t (p + 1) = some b) : Big G 3 0 mX7_takeDigits [.ref 106] w (.inl (some (.int (nI (a * 10 + b))))) (wPl w (p + 2)) := by
  refine big_of (by decide +kernel) (Nat.le_of_ble_eq_true rfl) ?_
  have ha := tDg_lt h1
  have hb := tDg_lt h2
  show Ev G 3 0 mX7_takeDigits 0 [some (.ref 106), none, none] [] w _
  refine ev_aload_n dX7_takeDigits_0 rfl ?_
  refine ev_callV kX7_59 co106 (qX7_takeDigit_y hi hp hpn h1) dX7_takeDigits_1 rfl (by decide) (by decide) rfl ?_
  refine ev_ist1 dX7_takeDigits_4 (by decide) rfl ?_
  refine ev_iload_n dX7_takeDigits_5 rfl ?_
  refine ev_iconst dX7_takeDigits_6 icm1 ?_
  refine ev_icmp_ne_t (tgt := 12) dX7_takeDigits_7 (by decide) (nI_m1 (by omega)) ?_
  refine ev_aload_n dX7_takeDigits_12 rfl ?_
  refine ev_callV kX7_59 co106 (qX7_takeDigit_y (w := wPl w (p + 1)) (p := p + 1) hi rfl (by omega) h2) dX7_takeDigits_13 rfl (by decide) (by decide) rfl ?_
  refine ev_ist2 dX7_takeDigits_16 (by decide) rfl ?_
  refine ev_iload_n dX7_takeDigits_17 rfl ?_
  refine ev_iconst dX7_takeDigits_18 icm1 ?_
  refine ev_icmp_ne_t (tgt := 26) dX7_takeDigits_19 (by decide) (nI_m1 (by omega)) ?_
  refine ev_iload_n dX7_takeDigits_26 rfl ?_
  refine ev_bipush (v := nI 10) dX7_takeDigits_27 (by decide) ?_
  refine ev_imul dX7_takeDigits_29 ?_
  refine ev_top (pk_mul _ _) ?_
  refine ev_iload_n dX7_takeDigits_30 rfl ?_
  refine ev_iadd dX7_takeDigits_31 ?_
  refine ev_top (nI_add _ _) ?_
  exact ev_iret dX7_takeDigits_32 rfl rfl rfl (wPl_wPl w (p + 1) (p + 2)).symm
theorem qX7_takeDigits {G : GX} {w : WS} {n : Nat} {t : Nat → Nat} (hi : inA n t w) {p : Nat} (hp : w.1 106 1 = nI p) (hpn : p ≤ n) : Big G 3 0 mX7_takeDigits [.ref 106] w (.inl (some (.int (oI (tDs n t p).1)))) (wPl w (tDs n t p).2) := by
  unfold tDs
  cases h1 : tDg n t p with
  | none => show Big G 3 0 mX7_takeDigits [.ref 106] w (.inl (some (.int (-1)))) (wPl w p); rw [wPl_id hp]; exact qX7_takeDigits_n hi hp hpn h1
  | some a =>
    simp only
    cases h2 : tDg n t (p + 1) with
    | none => exact qX7_takeDigits_1 hi hp hpn h1 h2
    | some b => exact qX7_takeDigits_2 hi hp hpn h1 h2
set_option maxRecDepth 4000 in
theorem qX7_takeCell {G : GX} {w : WS} {n : Nat} {t : Nat → Nat} (hi : inA n t w) {p : Nat} (hp : w.1 106 1 = nI p) (hpn : p ≤ n) {x : Option Nat} {r : Nat} (e : tDs n t p = (x, r)) : Big G 4 0 mX7_takeCell [.ref 106, .ref 102] w (.inl (some (.int (bI x.isSome)))) (cs_ (wPl w r) 102 (upd (w.1 102) 1 (oI x))) := by
  refine big_of (by decide +kernel) (Nat.le_of_ble_eq_true rfl) ?_
  have hB := qX7_takeDigits (G := G) hi hp hpn
  rw [e] at hB
  have hk := tDs_ok e hpn
  show Ev G 4 0 mX7_takeCell 0 [some (.ref 106), some (.ref 102)] [] w _
  refine ev_aload_n dX7_takeCell_0 rfl ?_
  refine ev_aload_n dX7_takeCell_1 rfl ?_
  refine ev_callV kX7_66 co106 hB dX7_takeCell_2 rfl (by decide) (by decide) rfl ?_
  refine ev_put fX7_69 dX7_takeCell_5 rfl rfl (by decide) sh102 rfl ?_
  refine ev_aload_n dX7_takeCell_8 rfl ?_
  refine ev_getI fX7_69 dX7_takeCell_9 (by decide) sh102 rfl ?_
  refine ev_iconst dX7_takeCell_12 icm1 ?_
  refine ev_icmp_eq (tgt := 20) dX7_takeCell_13 (by decide) (fun hc13 => ?_) (fun hc13 => ?_)
  · refine ev_iconst dX7_takeCell_20 ic0 ?_
    exact ev_iret dX7_takeCell_21 rfl (by decide) (by cases x with | none => rfl | some y => exact absurd hc13 (nI_m1 (by have := (hk.2.2 y rfl).1; omega))) rfl
  · refine ev_iconst dX7_takeCell_16 ic1 ?_
    refine ev_goto (tgt := 21) dX7_takeCell_17 (by decide) ?_
    exact ev_iret dX7_takeCell_21 rfl (by decide) (by cases x with | none => exact absurd rfl hc13 | some y => rfl) rfl
set_option maxRecDepth 4000 in
theorem qX7_takeNumber {G : GX} {w : WS} {n : Nat} {t : Nat → Nat} (hi : inA n t w) {p : Nat} (hp : w.1 106 1 = nI p) (hpn : p ≤ n) {x : Option Nat} {r : Nat} (e : tDs n t p = (x, r)) : Big G 4 0 mX7_takeNumber [.ref 106, .ref 102] w (.inl (some (.int (bI x.isSome)))) (cs_ (wPl w r) 102 (upd (w.1 102) 2 (oI x))) := by
  refine big_of (by decide +kernel) (Nat.le_of_ble_eq_true rfl) ?_
  have hB := qX7_takeDigits (G := G) hi hp hpn
  rw [e] at hB
  have hk := tDs_ok e hpn
  show Ev G 4 0 mX7_takeNumber 0 [some (.ref 106), some (.ref 102)] [] w _
  refine ev_aload_n dX7_takeNumber_0 rfl ?_
  refine ev_aload_n dX7_takeNumber_1 rfl ?_
  refine ev_callV kX7_66 co106 hB dX7_takeNumber_2 rfl (by decide) (by decide) rfl ?_
  refine ev_put fX7_63 dX7_takeNumber_5 rfl rfl (by decide) sh102 rfl ?_
  refine ev_aload_n dX7_takeNumber_8 rfl ?_
  refine ev_getI fX7_63 dX7_takeNumber_9 (by decide) sh102 rfl ?_
  refine ev_iconst dX7_takeNumber_12 icm1 ?_
  refine ev_icmp_eq (tgt := 20) dX7_takeNumber_13 (by decide) (fun hc13 => ?_) (fun hc13 => ?_)
  · refine ev_iconst dX7_takeNumber_20 ic0 ?_
    exact ev_iret dX7_takeNumber_21 rfl (by decide) (by cases x with | none => rfl | some y => exact absurd hc13 (nI_m1 (by have := (hk.2.2 y rfl).1; omega))) rfl
  · refine ev_iconst dX7_takeNumber_16 ic1 ?_
    refine ev_goto (tgt := 21) dX7_takeNumber_17 (by decide) ?_
    exact ev_iret dX7_takeNumber_21 rfl (by decide) (by cases x with | none => exact absurd rfl hc13 | some y => rfl) rfl
set_option maxRecDepth 4000 in
theorem qX7_takeRealm_d {G : GX} {w : WS} {n : Nat} {t : Nat → Nat} (hi : inA n t w) {p : Nat} (hp : w.1 106 1 = nI p) (hpn : p ≤ n) (h : p < n ∧ t p = 46) : Big G 3 0 mX7_takeRealm [.ref 106, .ref 102, .int (1)] w (.inl (some (.int (1)))) (cs_ (wPl w (p + 1)) 102 (upd (w.1 102) 2 (-1))) := by
  refine big_of (by decide +kernel) (Nat.le_of_ble_eq_true rfl) ?_
  show Ev G 3 0 mX7_takeRealm 0 [some (.ref 106), some (.ref 102), some (.int (1)), none] [] w _
  refine ev_iload_n dX7_takeRealm_0 rfl ?_
  refine ev_if_eq_f (tgt := 20) dX7_takeRealm_1 (by decide) (by decide) ?_
  refine ev_aload_n dX7_takeRealm_4 rfl ?_
  refine ev_bipush (v := nI 46) dX7_takeRealm_5 (by decide) ?_
  refine ev_callV kX7_32 co106 (qX7_takeSign_y hi hp hpn (by decide) (decide_eq_true h)) dX7_takeRealm_7 rfl (by decide) (by decide) rfl ?_
  refine ev_if_eq_f (tgt := 20) dX7_takeRealm_10 (by decide) (by decide) ?_
  refine ev_aload_n dX7_takeRealm_13 rfl ?_
  refine ev_iconst dX7_takeRealm_14 icm1 ?_
  refine ev_put fX7_63 dX7_takeRealm_15 rfl rfl (by decide) sh102 rfl ?_
  refine ev_iconst dX7_takeRealm_18 ic1 ?_
  exact ev_iret dX7_takeRealm_19 rfl (by decide) rfl rfl
set_option maxRecDepth 4000 in
theorem qX7_takeRealm_ry {G : GX} {w : WS} {n : Nat} {t : Nat → Nat} (hi : inA n t w) {p : Nat} (hp : w.1 106 1 = nI p) (hpn : p ≤ n) (h0 : tSg n t p 46 = false) (h : p < n ∧ 97 ≤ t p ∧ t p ≤ 100) : Big G 3 0 mX7_takeRealm [.ref 106, .ref 102, .int (1)] w (.inl (some (.int (1)))) (cs_ (wPl w (p + 1)) 102 (upd (w.1 102) 2 (nI (t p - 97)))) := by
  refine big_of (by decide +kernel) (Nat.le_of_ble_eq_true rfl) ?_
  show Ev G 3 0 mX7_takeRealm 0 [some (.ref 106), some (.ref 102), some (.int (1)), none] [] w _
  refine ev_iload_n dX7_takeRealm_0 rfl ?_
  refine ev_if_eq_f (tgt := 20) dX7_takeRealm_1 (by decide) (by decide) ?_
  refine ev_aload_n dX7_takeRealm_4 rfl ?_
  refine ev_bipush (v := nI 46) dX7_takeRealm_5 (by decide) ?_
  refine ev_callV kX7_32 co106 (qX7_takeSign_n hi hp hpn (by decide) h0) dX7_takeRealm_7 rfl (by decide) (by decide) rfl ?_
  refine ev_if_eq_t (tgt := 20) dX7_takeRealm_10 (by decide) rfl ?_
  refine ev_aload_n dX7_takeRealm_20 rfl ?_
  refine ev_getR fX7_12 dX7_takeRealm_21 (by decide) sh106 rfl ?_
  refine ev_aload_n dX7_takeRealm_24 rfl ?_
  refine ev_getI fX7_18 dX7_takeRealm_25 (by decide) sh106 rfl ?_
  refine ev_top hp ?_
  refine ev_callV kX7_39 co104 (qX7_sgn hi hpn) dX7_takeRealm_28 rfl (by decide) (by decide) rfl ?_
  refine ev_bipush (v := nI 97) dX7_takeRealm_31 (by decide) ?_
  refine ev_isub dX7_takeRealm_33 ?_
  refine ev_top (y := nI (t p - 97)) (by unfold sgv; rw [if_pos h.1, pk_sub h.2.1]) ?_
  refine ev_ist3 dX7_takeRealm_34 (by decide) rfl ?_
  refine ev_iload_n dX7_takeRealm_35 rfl ?_
  refine ev_callN kX7_72 (qX11_isRealm_y (by omega)) dX7_takeRealm_36 rfl (by decide) (by decide) rfl ?_
  refine ev_if_ne_t (tgt := 44) dX7_takeRealm_39 (by decide) (by decide) ?_
  refine ev_aload_n dX7_takeRealm_44 rfl ?_
  refine ev_dup dX7_takeRealm_45 rfl ?_
  refine ev_getI fX7_18 dX7_takeRealm_46 (by decide) sh106 rfl ?_
  refine ev_top hp ?_
  refine ev_iconst dX7_takeRealm_49 ic1 ?_
  refine ev_iadd dX7_takeRealm_50 ?_
  refine ev_top (nI_add _ _) ?_
  refine ev_put fX7_18 dX7_takeRealm_51 rfl rfl (by decide) sh106 rfl ?_
  refine ev_aload_n dX7_takeRealm_54 rfl ?_
  refine ev_iload_n dX7_takeRealm_55 rfl ?_
  refine ev_put fX7_63 dX7_takeRealm_56 rfl rfl (by decide) sh102 rfl ?_
  refine ev_iconst dX7_takeRealm_59 ic1 ?_
  exact ev_iret dX7_takeRealm_60 rfl (by decide) rfl rfl
set_option maxRecDepth 4000 in
theorem qX7_takeRealm_rn {G : GX} {w : WS} {n : Nat} {t : Nat → Nat} (hi : inA n t w) {p : Nat} (hp : w.1 106 1 = nI p) (hpn : p ≤ n) (h0 : tSg n t p 46 = false) (h : ¬ (p < n ∧ 97 ≤ t p ∧ t p ≤ 100)) : Big G 3 0 mX7_takeRealm [.ref 106, .ref 102, .int (1)] w (.inl (some (.int (0)))) w := by
  refine big_of (by decide +kernel) (Nat.le_of_ble_eq_true rfl) ?_
  show Ev G 3 0 mX7_takeRealm 0 [some (.ref 106), some (.ref 102), some (.int (1)), none] [] w _
  refine ev_iload_n dX7_takeRealm_0 rfl ?_
  refine ev_if_eq_f (tgt := 20) dX7_takeRealm_1 (by decide) (by decide) ?_
  refine ev_aload_n dX7_takeRealm_4 rfl ?_
  refine ev_bipush (v := nI 46) dX7_takeRealm_5 (by decide) ?_
  refine ev_callV kX7_32 co106 (qX7_takeSign_n hi hp hpn (by decide) h0) dX7_takeRealm_7 rfl (by decide) (by decide) rfl ?_
  refine ev_if_eq_t (tgt := 20) dX7_takeRealm_10 (by decide) rfl ?_
  refine ev_aload_n dX7_takeRealm_20 rfl ?_
  refine ev_getR fX7_12 dX7_takeRealm_21 (by decide) sh106 rfl ?_
  refine ev_aload_n dX7_takeRealm_24 rfl ?_
  refine ev_getI fX7_18 dX7_takeRealm_25 (by decide) sh106 rfl ?_
  refine ev_top hp ?_
  refine ev_callV kX7_39 co104 (qX7_sgn hi hpn) dX7_takeRealm_28 rfl (by decide) (by decide) rfl ?_
  refine ev_bipush (v := nI 97) dX7_takeRealm_31 (by decide) ?_
  refine ev_isub dX7_takeRealm_33 ?_
  refine ev_ist3 dX7_takeRealm_34 (by decide) rfl ?_
  refine ev_iload_n dX7_takeRealm_35 rfl ?_
  refine ev_callN kX7_72 (qX11_isRealm_n (rlm_n hi h)) dX7_takeRealm_36 rfl (by decide) (by decide) rfl ?_
  refine ev_if_ne_f (tgt := 44) dX7_takeRealm_39 (by decide) rfl ?_
  refine ev_iconst dX7_takeRealm_42 ic0 ?_
  exact ev_iret dX7_takeRealm_43 rfl (by decide) rfl rfl
set_option maxRecDepth 4000 in
theorem qX7_takeRealm_sy {G : GX} {w : WS} {n : Nat} {t : Nat → Nat} (hi : inA n t w) {p : Nat} (hp : w.1 106 1 = nI p) (hpn : p ≤ n) (h : p < n ∧ 97 ≤ t p ∧ t p ≤ 100) : Big G 3 0 mX7_takeRealm [.ref 106, .ref 102, .int (0)] w (.inl (some (.int (1)))) (cs_ (wPl w (p + 1)) 102 (upd (w.1 102) 2 (nI (t p - 97)))) := by
  refine big_of (by decide +kernel) (Nat.le_of_ble_eq_true rfl) ?_
  show Ev G 3 0 mX7_takeRealm 0 [some (.ref 106), some (.ref 102), some (.int (0)), none] [] w _
  refine ev_iload_n dX7_takeRealm_0 rfl ?_
  refine ev_if_eq_t (tgt := 20) dX7_takeRealm_1 (by decide) rfl ?_
  refine ev_aload_n dX7_takeRealm_20 rfl ?_
  refine ev_getR fX7_12 dX7_takeRealm_21 (by decide) sh106 rfl ?_
  refine ev_aload_n dX7_takeRealm_24 rfl ?_
  refine ev_getI fX7_18 dX7_takeRealm_25 (by decide) sh106 rfl ?_
  refine ev_top hp ?_
  refine ev_callV kX7_39 co104 (qX7_sgn hi hpn) dX7_takeRealm_28 rfl (by decide) (by decide) rfl ?_
  refine ev_bipush (v := nI 97) dX7_takeRealm_31 (by decide) ?_
  refine ev_isub dX7_takeRealm_33 ?_
  refine ev_top (y := nI (t p - 97)) (by unfold sgv; rw [if_pos h.1, pk_sub h.2.1]) ?_
  refine ev_ist3 dX7_takeRealm_34 (by decide) rfl ?_
  refine ev_iload_n dX7_takeRealm_35 rfl ?_
  refine ev_callN kX7_72 (qX11_isRealm_y (by omega)) dX7_takeRealm_36 rfl (by decide) (by decide) rfl ?_
  refine ev_if_ne_t (tgt := 44) dX7_takeRealm_39 (by decide) (by decide) ?_
  refine ev_aload_n dX7_takeRealm_44 rfl ?_
  refine ev_dup dX7_takeRealm_45 rfl ?_
  refine ev_getI fX7_18 dX7_takeRealm_46 (by decide) sh106 rfl ?_
  refine ev_top hp ?_
  refine ev_iconst dX7_takeRealm_49 ic1 ?_
  refine ev_iadd dX7_takeRealm_50 ?_
  refine ev_top (nI_add _ _) ?_
  refine ev_put fX7_18 dX7_takeRealm_51 rfl rfl (by decide) sh106 rfl ?_
  refine ev_aload_n dX7_takeRealm_54 rfl ?_
  refine ev_iload_n dX7_takeRealm_55 rfl ?_
  refine ev_put fX7_63 dX7_takeRealm_56 rfl rfl (by decide) sh102 rfl ?_
  refine ev_iconst dX7_takeRealm_59 ic1 ?_
  exact ev_iret dX7_takeRealm_60 rfl (by decide) rfl rfl
set_option maxRecDepth 4000 in
theorem qX7_takeRealm_sn {G : GX} {w : WS} {n : Nat} {t : Nat → Nat} (hi : inA n t w) {p : Nat} (hp : w.1 106 1 = nI p) (hpn : p ≤ n) (h : ¬ (p < n ∧ 97 ≤ t p ∧ t p ≤ 100)) : Big G 3 0 mX7_takeRealm [.ref 106, .ref 102, .int (0)] w (.inl (some (.int (0)))) w := by
  refine big_of (by decide +kernel) (Nat.le_of_ble_eq_true rfl) ?_
  show Ev G 3 0 mX7_takeRealm 0 [some (.ref 106), some (.ref 102), some (.int (0)), none] [] w _
  refine ev_iload_n dX7_takeRealm_0 rfl ?_
  refine ev_if_eq_t (tgt := 20) dX7_takeRealm_1 (by decide) rfl ?_
  refine ev_aload_n dX7_takeRealm_20 rfl ?_
  refine ev_getR fX7_12 dX7_takeRealm_21 (by decide) sh106 rfl ?_
  refine ev_aload_n dX7_takeRealm_24 rfl ?_
  refine ev_getI fX7_18 dX7_takeRealm_25 (by decide) sh106 rfl ?_
  refine ev_top hp ?_
  refine ev_callV kX7_39 co104 (qX7_sgn hi hpn) dX7_takeRealm_28 rfl (by decide) (by decide) rfl ?_
  refine ev_bipush (v := nI 97) dX7_takeRealm_31 (by decide) ?_
  refine ev_isub dX7_takeRealm_33 ?_
  refine ev_ist3 dX7_takeRealm_34 (by decide) rfl ?_
  refine ev_iload_n dX7_takeRealm_35 rfl ?_
  refine ev_callN kX7_72 (qX11_isRealm_n (rlm_n hi h)) dX7_takeRealm_36 rfl (by decide) (by decide) rfl ?_
  refine ev_if_ne_f (tgt := 44) dX7_takeRealm_39 (by decide) rfl ?_
  refine ev_iconst dX7_takeRealm_42 ic0 ?_
  exact ev_iret dX7_takeRealm_43 rfl (by decide) rfl rfl
theorem qX7_takeRealm {G : GX} {w : WS} {n : Nat} {t : Nat → Nat} (hi : inA n t w) {p : Nat} (hp : w.1 106 1 = nI p) (hpn : p ≤ n) {b : Bool} {z : Option (Option Nat)} {s : Nat} (e : tRm n t p b = (z, s)) : ∃ w2, Big G 3 0 mX7_takeRealm [.ref 106, .ref 102, .int (bI b)] w (.inl (some (.int (bI z.isSome)))) w2 ∧ w2.1 106 1 = nI s ∧ frL [102, 103, 106] w w2 ∧ w2.1 102 0 = w.1 102 0 ∧ w2.1 102 1 = w.1 102 1 ∧ ∀ y, z = some y → w2.1 102 2 = oI y := by
  unfold tRm at e
  by_cases h1 : b = true ∧ p < n ∧ t p = 46
  · rw [if_pos h1] at e
    cases e
    obtain ⟨rfl, h⟩ := h1
    exact ⟨_, qX7_takeRealm_d hi hp hpn h, rfl, frL_cs fr_wPl (by decide) _, rfl, rfl, fun y hy => by cases hy; rfl⟩
  · rw [if_neg h1] at e
    by_cases h2 : p < n ∧ 97 ≤ t p ∧ t p ≤ 100
    · rw [if_pos h2] at e
      cases e
      cases b with
      | true => exact ⟨_, qX7_takeRealm_ry hi hp hpn (decide_eq_false (fun q => h1 ⟨rfl, q⟩)) h2, rfl, frL_cs fr_wPl (by decide) _, rfl, rfl, fun y hy => by cases hy; rfl⟩
      | false => exact ⟨_, qX7_takeRealm_sy hi hp hpn h2, rfl, frL_cs fr_wPl (by decide) _, rfl, rfl, fun y hy => by cases hy; rfl⟩
    · rw [if_neg h2] at e
      cases e
      cases b with
      | true => exact ⟨w, qX7_takeRealm_rn hi hp hpn (decide_eq_false (fun q => h1 ⟨rfl, q⟩)) h2, hp, frL_rf, rfl, rfl, fun y hy => by cases hy⟩
      | false => exact ⟨w, qX7_takeRealm_sn hi hp hpn h2, hp, frL_rf, rfl, rfl, fun y hy => by cases hy⟩
set_option maxRecDepth 4000 in
theorem qX7_sideOf_110 {G : GX} {w : WS} : Big G 1 0 mX7_sideOf [.int (nI 110)] w (.inl (some (.int (nI 0)))) w := by
  refine big_of (by decide +kernel) (Nat.le_of_ble_eq_true rfl) ?_
  show Ev G 1 0 mX7_sideOf 0 [some (.int (nI 110))] [] w _
  refine ev_iload_n dX7_sideOf_0 rfl ?_
  refine ev_lookup (tgt := 44) (off := 43) dX7_sideOf_1 (by decide) (by decide +kernel) (by decide) ?_
  refine ev_iconst dX7_sideOf_44 ic0 ?_
  exact ev_iret dX7_sideOf_45 rfl rfl rfl rfl
set_option maxRecDepth 4000 in
theorem qX7_sideOf_101 {G : GX} {w : WS} : Big G 1 0 mX7_sideOf [.int (nI 101)] w (.inl (some (.int (nI 1)))) w := by
  refine big_of (by decide +kernel) (Nat.le_of_ble_eq_true rfl) ?_
  show Ev G 1 0 mX7_sideOf 0 [some (.int (nI 101))] [] w _
  refine ev_iload_n dX7_sideOf_0 rfl ?_
  refine ev_lookup (tgt := 46) (off := 45) dX7_sideOf_1 (by decide) (by decide +kernel) (by decide) ?_
  refine ev_iconst dX7_sideOf_46 ic1 ?_
  exact ev_iret dX7_sideOf_47 rfl rfl rfl rfl
set_option maxRecDepth 4000 in
theorem qX7_sideOf_115 {G : GX} {w : WS} : Big G 1 0 mX7_sideOf [.int (nI 115)] w (.inl (some (.int (nI 2)))) w := by
  refine big_of (by decide +kernel) (Nat.le_of_ble_eq_true rfl) ?_
  show Ev G 1 0 mX7_sideOf 0 [some (.int (nI 115))] [] w _
  refine ev_iload_n dX7_sideOf_0 rfl ?_
  refine ev_lookup (tgt := 48) (off := 47) dX7_sideOf_1 (by decide) (by decide +kernel) (by decide) ?_
  refine ev_iconst dX7_sideOf_48 ic2 ?_
  exact ev_iret dX7_sideOf_49 rfl rfl rfl rfl
set_option maxRecDepth 4000 in
theorem qX7_sideOf_119 {G : GX} {w : WS} : Big G 1 0 mX7_sideOf [.int (nI 119)] w (.inl (some (.int (nI 3)))) w := by
  refine big_of (by decide +kernel) (Nat.le_of_ble_eq_true rfl) ?_
  show Ev G 1 0 mX7_sideOf 0 [some (.int (nI 119))] [] w _
  refine ev_iload_n dX7_sideOf_0 rfl ?_
  refine ev_lookup (tgt := 50) (off := 49) dX7_sideOf_1 (by decide) (by decide +kernel) (by decide) ?_
  refine ev_iconst dX7_sideOf_50 ic3 ?_
  exact ev_iret dX7_sideOf_51 rfl rfl rfl rfl
set_option maxRecDepth 4000 in
theorem qX7_sideOf_n {G : GX} {w : WS} {x : Int32} (h : ∀ c, (c = 110 ∨ c = 101 ∨ c = 115 ∨ c = 119) → x ≠ nI c) : Big G 1 0 mX7_sideOf [.int x] w (.inl (some (.int (-1)))) w := by
  refine big_of (by decide +kernel) (Nat.le_of_ble_eq_true rfl) ?_
  show Ev G 1 0 mX7_sideOf 0 [some (.int x)] [] w _
  refine ev_iload_n dX7_sideOf_0 rfl ?_
  refine ev_lookup (tgt := 52) (off := 51) dX7_sideOf_1 (by decide) (by
        have e : ∀ (c : Nat) (k : Int), c < 1000 → k = (c : Int) → x ≠ nI c → ¬ (k = x.toInt) := fun c k hc hk q e => q (Int32.toInt_inj.mp (by rw [nI_toInt (by omega), ← hk]; exact e.symm))
        simp only [Op.lookupswitch.offset]
        rw [if_neg (e 101 101 (by decide) rfl (h 101 (by decide))), if_neg (e 110 110 (by decide) rfl (h 110 (by decide))), if_neg (e 115 115 (by decide) rfl (h 115 (by decide))), if_neg (e 119 119 (by decide) rfl (h 119 (by decide)))]) (by decide) ?_
  refine ev_iconst dX7_sideOf_52 icm1 ?_
  exact ev_iret dX7_sideOf_53 rfl rfl rfl rfl
theorem qX7_side {G : GX} {w : WS} {n : Nat} {t : Nat → Nat} (hi : inA n t w) {p : Nat} : Big G 1 0 mX7_sideOf [.int (sgv n t p)] w (.inl (some (.int (oI (stp n t p))))) w := by
  unfold sgv stp
  by_cases h : p < n
  · rw [if_pos h, if_pos h]
    have hb := (hi.2.2 p h).2
    unfold dO_
    by_cases h1 : t p = 110
    · rw [if_pos h1, h1]; exact qX7_sideOf_110
    · rw [if_neg h1]
      by_cases h2 : t p = 101
      · rw [if_pos h2, h2]; exact qX7_sideOf_101
      · rw [if_neg h2]
        by_cases h3 : t p = 115
        · rw [if_pos h3, h3]; exact qX7_sideOf_115
        · rw [if_neg h3]
          by_cases h4 : t p = 119
          · rw [if_pos h4, h4]; exact qX7_sideOf_119
          · rw [if_neg h4]
            refine qX7_sideOf_n (fun c hc q => ?_)
            have := nI_inj (by omega) (by omega) q
            omega
  · rw [if_neg h, if_neg h]
    refine qX7_sideOf_n (fun c hc q => ?_)
    exact absurd q.symm (nI_m1 (by omega))
