/-! the reference: commands read -/
theorem hr_0 {n : Nat} {t : Nat → Nat} {a b p : Nat} : hr n t a b (0, p) = decide (p < n ∧ a ≤ t p ∧ t p ≤ b) := by
  unfold hr
  simp
theorem hr_1 {n : Nat} {t : Nat → Nat} {a b p : Nat} : hr n t a b (1, p) = false := decide_eq_false (fun q => absurd (show (1 : Nat) = 0 from q.1) (by decide))
theorem sg_1 {n : Nat} {t : Nat → Nat} {a b p : Nat} : sg n t a b (1, p) = (1, p) := by unfold sg; rw [hr_1]; rfl
theorem dg_s {n : Nat} {t : Nat → Nat} {p a : Nat} (h : tDg n t p = some a) : hr n t 48 57 (0, p) = true ∧ sg n t 48 57 (0, p) = (0, p + 1) ∧ sv n t 48 57 (0, p) = a := by
  unfold tDg at h
  split at h
  · rename_i q
    cases h
    have e : hr n t 48 57 (0, p) = true := by rw [hr_0]; exact decide_eq_true q
    exact ⟨e, by unfold sg; rw [if_pos e], by unfold sv; rw [if_pos e]⟩
  · cases h
theorem dg_f {n : Nat} {t : Nat → Nat} {p : Nat} (h : tDg n t p = none) : hr n t 48 57 (0, p) = false ∧ sg n t 48 57 (0, p) = (1, p) := by
  unfold tDg at h
  split at h
  · cases h
  · rename_i q
    have e : hr n t 48 57 (0, p) = false := by rw [hr_0]; exact decide_eq_false q
    exact ⟨e, by unfold sg; rw [e]; rfl⟩
theorem nu_1 {n : Nat} {t : Nat → Nat} {p : Nat} : nu n t (1, p) = (1, p) := by unfold nu; rw [sg_1, hr_1]; rfl
theorem nu_n {n : Nat} {t : Nat → Nat} {p r : Nat} (h : tDs n t p = (none, r)) : nu n t (0, p) = (1, r) := by
  unfold tDs at h
  cases h1 : tDg n t p with
  | none =>
    rw [h1] at h
    cases h
    unfold nu
    rw [(dg_f h1).2, hr_1]
    rfl
  | some a =>
    rw [h1] at h
    dsimp only at h
    cases h2 : tDg n t (p + 1) with
    | none => rw [h2] at h; cases h
    | some b => rw [h2] at h; cases h
theorem nu_s {n : Nat} {t : Nat → Nat} {p r v : Nat} (h : tDs n t p = (some v, r)) : nu n t (0, p) = (0, r) ∧ nv n t (0, p) = v := by
  unfold tDs at h
  cases h1 : tDg n t p with
  | none => rw [h1] at h; cases h
  | some a =>
    rw [h1] at h
    obtain ⟨g1, g2, g3⟩ := dg_s h1
    dsimp only at h
    cases h2 : tDg n t (p + 1) with
    | none =>
      rw [h2] at h
      cases h
      unfold nu nv
      rw [g2, (dg_f h2).1]
      exact ⟨rfl, g3⟩
    | some b =>
      rw [h2] at h
      cases h
      obtain ⟨k1, k2, k3⟩ := dg_s h2
      unfold nu nv
      rw [g2, k1, k2, k3, g3]
      exact ⟨rfl, by rw [if_pos rfl]; omega⟩
theorem sgn_t {n : Nat} {t : Nat → Nat} {p s : Nat} (h : tSg n t p s = true) : hr n t s s (0, p) = true ∧ sg n t s s (0, p) = (0, p + 1) := by
  have q := of_decide_eq_true h
  have e : hr n t s s (0, p) = true := by rw [hr_0]; exact decide_eq_true ⟨q.1, by omega, by omega⟩
  exact ⟨e, by unfold sg; rw [if_pos e]⟩
theorem sgn_f {n : Nat} {t : Nat → Nat} {p s : Nat} (h : ¬ tSg n t p s = true) : hr n t s s (0, p) = false ∧ sg n t s s (0, p) = (1, p) := by
  have e : hr n t s s (0, p) = false := by
    rw [hr_0]
    refine decide_eq_false (fun q => h (decide_eq_true ⟨q.1, ?_⟩))
    omega
  exact ⟨e, by unfold sg; rw [e]; rfl⟩
def eZ (y : Option Cmd) : Nat := if y.isSome = true then 0 else 1
theorem pa_y {n : Nat} {t : Nat → Nat} {p q : Nat} {y : Option Cmd} (h : cPa n t p = (y, q)) (hh : hr n t 46 46 (nu n t (0, p)) = true) : sg n t 46 46 (nu n t (0, p)) = (eZ y, q) ∧ ∀ c, y = some c → c = .inl (nv n t (0, p), -1) := by
  unfold cPa at h
  obtain ⟨x, r, e⟩ : ∃ x r, tDs n t p = (x, r) := ⟨_, _, rfl⟩
  rw [e] at h
  cases x with
  | none => rw [nu_n e, hr_1] at hh; cases hh
  | some v =>
    obtain ⟨g1, g2⟩ := nu_s e
    rw [g1] at hh ⊢
    have q0 := of_decide_eq_true hh
    have q1 : r < n := q0.2.1
    have q2 : t r = 46 := by have a : 46 ≤ t r := q0.2.2.1; have b : t r ≤ 46 := q0.2.2.2; omega
    have e2 : tRm n t r true = (some none, r + 1) := by unfold tRm; rw [if_pos ⟨rfl, q1, q2⟩]
    dsimp only at h
    rw [e2] at h
    cases h
    refine ⟨by unfold sg; rw [if_pos hh]; rfl, fun c hc => ?_⟩
    cases hc
    rw [g2]
    rfl
theorem rm_s {n : Nat} {t : Nat → Nat} {r : Nat} {b : Bool} (hb : b = true → hr n t 46 46 (0, r) = false) {z : Option (Option Nat)} {s : Nat} (h : tRm n t r b = (z, s)) : sg n t 97 100 (0, r) = (if z.isSome = true then 0 else 1, s) ∧ ∀ y, z = some y → y = some (sv n t 97 100 (0, r)) := by
  unfold tRm at h
  have h1 : ¬ (b = true ∧ r < n ∧ t r = 46) := fun q => by
    have := hb q.1
    rw [hr_0, decide_eq_false_iff_not] at this
    exact this ⟨q.2.1, by omega, by omega⟩
  rw [if_neg h1] at h
  by_cases h2 : r < n ∧ 97 ≤ t r ∧ t r ≤ 100
  · rw [if_pos h2] at h
    cases h
    have e : hr n t 97 100 (0, r) = true := by rw [hr_0]; exact decide_eq_true h2
    refine ⟨by unfold sg; rw [if_pos e]; rfl, fun y hy => ?_⟩
    cases hy
    unfold sv
    rw [if_pos e]
  · rw [if_neg h2] at h
    cases h
    have e : hr n t 97 100 (0, r) = false := by rw [hr_0]; exact decide_eq_false h2
    exact ⟨by unfold sg; rw [e]; rfl, fun y hy => by cases hy⟩
theorem pa_n {n : Nat} {t : Nat → Nat} {p q : Nat} {y : Option Cmd} (h : cPa n t p = (y, q)) (hh : hr n t 46 46 (nu n t (0, p)) = false) : sg n t 97 100 (nu n t (0, p)) = (eZ y, q) ∧ ∀ c, y = some c → c = .inl (nv n t (0, p), nI (sv n t 97 100 (nu n t (0, p)))) := by
  unfold cPa at h
  obtain ⟨x, r, e⟩ : ∃ x r, tDs n t p = (x, r) := ⟨_, _, rfl⟩
  rw [e] at h
  cases x with
  | none =>
    cases h
    rw [nu_n e]
    exact ⟨sg_1, fun c hc => by cases hc⟩
  | some v =>
    obtain ⟨g1, g2⟩ := nu_s e
    rw [g1] at hh ⊢
    obtain ⟨z, s, e2⟩ : ∃ z s, tRm n t r true = (z, s) := ⟨_, _, rfl⟩
    obtain ⟨k1, k2⟩ := rm_s (fun _ => hh) e2
    dsimp only at h
    rw [e2] at h
    cases z with
    | none => cases h; exact ⟨k1, fun c hc => by cases hc⟩
    | some z =>
      cases h
      refine ⟨k1, fun c hc => ?_⟩
      cases hc
      rw [g2, k2 z rfl]
      rfl
theorem sh_s {n : Nat} {t : Nat → Nat} {p q : Nat} {y : Option Cmd} (h : cSh n t p = (y, q)) : sg n t 97 100 (nu n t (0, p)) = (eZ y, q) ∧ ∀ c, y = some c → c = .inr (.inl (nv n t (0, p), sv n t 97 100 (nu n t (0, p)))) := by
  unfold cSh at h
  obtain ⟨x, r, e⟩ : ∃ x r, tDs n t p = (x, r) := ⟨_, _, rfl⟩
  rw [e] at h
  cases x with
  | none =>
    cases h
    rw [nu_n e]
    exact ⟨sg_1, fun c hc => by cases hc⟩
  | some v =>
    obtain ⟨g1, g2⟩ := nu_s e
    rw [g1]
    obtain ⟨z, s, e2⟩ : ∃ z s, tRm n t r false = (z, s) := ⟨_, _, rfl⟩
    obtain ⟨k1, k2⟩ := rm_s (fun q => by cases q) e2
    dsimp only at h
    rw [e2] at h
    cases z with
    | none => cases h; exact ⟨k1, fun c hc => by cases hc⟩
    | some z =>
      cases h
      refine ⟨k1, fun c hc => ?_⟩
      cases hc
      rw [g2, k2 z rfl]
      rfl
theorem dg_c {n : Nat} {t : Nat → Nat} {p q : Nat} {y : Option Cmd} {g : Nat → Cmd} (h : cDg n t p g = (y, q)) : sg n t 48 57 (0, p) = (eZ y, q) ∧ ∀ c, y = some c → c = g (sv n t 48 57 (0, p)) := by
  unfold cDg at h
  cases e : tDg n t p with
  | none => rw [e] at h; cases h; exact ⟨(dg_f e).2, fun c hc => by cases hc⟩
  | some a =>
    rw [e] at h
    cases h
    obtain ⟨g1, g2, g3⟩ := dg_s e
    refine ⟨g2, fun c hc => ?_⟩
    cases hc
    rw [g3]
theorem dr_c {n : Nat} {t : Nat → Nat} {p q : Nat} {y : Option Cmd} (h : cDr n t p = (y, q)) : nu n t (sg n t 47 47 (nu n t (0, p))) = (eZ y, q) ∧ ∀ c, y = some c → c = .inr (.inr (.inr (.inr (.inr (.inl (nv n t (0, p), nv n t (sg n t 47 47 (nu n t (0, p))))))))) := by
  unfold cDr at h
  obtain ⟨x, r, e⟩ : ∃ x r, tDs n t p = (x, r) := ⟨_, _, rfl⟩
  rw [e] at h
  cases x with
  | none =>
    cases h
    rw [nu_n e, sg_1, nu_1]
    exact ⟨rfl, fun c hc => by cases hc⟩
  | some v =>
    obtain ⟨g1, g2⟩ := nu_s e
    rw [g1, g2]
    dsimp only at h
    split at h
    · rename_i h1
      rw [(sgn_t h1).2]
      obtain ⟨x, s, e2⟩ : ∃ x s, tDs n t (r + 1) = (x, s) := ⟨_, _, rfl⟩
      rw [e2] at h
      cases x with
      | none => cases h; rw [nu_n e2]; exact ⟨rfl, fun c hc => by cases hc⟩
      | some v2 =>
        cases h
        obtain ⟨k1, k2⟩ := nu_s e2
        rw [k1, k2]
        exact ⟨rfl, fun c hc => by cases hc; rfl⟩
    · rename_i h1
      cases h
      rw [(sgn_f h1).2, nu_1]
      exact ⟨rfl, fun c hc => by cases hc⟩
theorem ri_c {n : Nat} {t : Nat → Nat} {p q : Nat} {y : Option Cmd} (h : cRi n t p = (y, q)) : nu n t (rr5 n t p) = (eZ y, q) ∧ ∀ c, y = some c → rK n t p = stN n t 12 (r2 n t p).2 ∧ 0 < rK n t p ∧ c = .inr (.inr (.inr (.inl (nv n t (0, p), nv n t (rr5 n t p), rK n t p, stD n t (r2 n t p).2)))) := by
  unfold cRi at h
  obtain ⟨x, r, e⟩ : ∃ x r, tDs n t p = (x, r) := ⟨_, _, rfl⟩
  rw [e] at h
  have h1f : ∀ z, r2 n t p = (1, z) → nu n t (rr5 n t p) = (1, z) := fun z hz => by
    have e3 : stE n t (r2 n t p) = false := by rw [hz]; exact decide_eq_false (fun q => absurd (show (1 : Nat) = 0 from q.1) (by decide))
    have hK : rK n t p = 0 := by unfold rK; rw [e3]; rfl
    unfold rr5 r4
    rw [e3, hK, hz]
    show nu n t (sg n t 61 61 (1, z)) = (1, z)
    rw [sg_1, nu_1]
  cases x with
  | none =>
    cases h
    rw [h1f _ (by unfold r2; rw [nu_n e, sg_1])]
    exact ⟨rfl, fun c hc => by cases hc⟩
  | some v =>
    obtain ⟨g1, g2⟩ := nu_s e
    rw [g2]
    dsimp only at h
    split at h
    · rename_i h1
      have er2 : r2 n t p = (0, r + 1) := by unfold r2; rw [g1, (sgn_t h1).2]
      split at h
      · rename_i h2
        have hs : (stp n t (r + 1)).isSome = true := by
          obtain ⟨d, hd⟩ := stN_at h2
          rw [Nat.add_zero] at hd
          rw [hd]
          rfl
        have e3 : stE n t (r2 n t p) = true := by rw [er2]; exact decide_eq_true ⟨rfl, hs⟩
        have hK : rK n t p = stN n t 12 (r + 1) := by unfold rK; rw [if_pos e3, er2]
        have er4 : r4 n t p = (0, r + 1 + stN n t 12 (r + 1)) := by unfold r4; rw [if_pos e3, hK, er2]
        split at h
        · rename_i h3
          have er5 : rr5 n t p = (0, r + 1 + stN n t 12 (r + 1) + 1) := by unfold rr5; rw [er4, (sgn_t h3).2]
          obtain ⟨x, s, e2⟩ : ∃ x s, tDs n t (r + 1 + stN n t 12 (r + 1) + 1) = (x, s) := ⟨_, _, rfl⟩
          rw [e2] at h
          rw [er5, er2, hK]
          cases x with
          | none => cases h; rw [nu_n e2]; exact ⟨rfl, fun c hc => by cases hc⟩
          | some v2 =>
            cases h
            obtain ⟨k1, k2⟩ := nu_s e2
            rw [k1, k2]
            exact ⟨rfl, fun c hc => by cases hc; exact ⟨rfl, h2, rfl⟩⟩
        · rename_i h3
          cases h
          have er5 : rr5 n t p = (1, r + 1 + stN n t 12 (r + 1)) := by unfold rr5; rw [er4, (sgn_f h3).2]
          rw [er5, nu_1]
          exact ⟨rfl, fun c hc => by cases hc⟩
      · rename_i h2
        cases h
        have e3 : stE n t (r2 n t p) = false := by
          rw [er2]
          refine decide_eq_false (fun q => h2 ?_)
          rw [stN, if_pos q.2]
          exact Nat.succ_pos _
        have h0 : stN n t 12 (r + 1) = 0 := by omega
        have hK : rK n t p = 0 := by unfold rK; rw [e3]; rfl
        have er4 : r4 n t p = (1, r + 1) := by unfold r4; rw [e3, hK, er2]; rfl
        have er5 : rr5 n t p = (1, r + 1) := by unfold rr5; rw [er4, sg_1]
        rw [er5, nu_1, h0]
        exact ⟨rfl, fun c hc => by cases hc⟩
    · rename_i h1
      cases h
      rw [h1f _ (by unfold r2; rw [g1, (sgn_f h1).2])]
      exact ⟨rfl, fun c hc => by cases hc⟩
/-- a row of orders holds a command -/
def hDf (n : Nat) (t : Nat → Nat) (f : Nat → Int32) (m : Nat) : Cmd → Prop
  | .inl (c, v) => f (5 * m) = nI 112 ∧ f (5 * m + 1) = nI c ∧ f (5 * m + 2) = v
  | .inr (.inl (c, r)) => f (5 * m) = nI 115 ∧ f (5 * m + 1) = nI c ∧ f (5 * m + 2) = nI r
  | .inr (.inr (.inl k)) => f (5 * m) = nI 109 ∧ f (5 * m + 1) = nI k
  | .inr (.inr (.inr (.inl (c, v, l, ds)))) => f (5 * m) = nI 114 ∧ f (5 * m + 1) = nI c ∧ f (5 * m + 3) = nI l ∧ f (5 * m + 4) = nI v ∧ ∃ fr, f (5 * m + 2) = nI fr ∧ fr + l ≤ n ∧ ∀ k, k < l → stp n t (fr + k) = some (ds k)
  | .inr (.inr (.inr (.inr (.inl i)))) => f (5 * m) = nI 107 ∧ f (5 * m + 1) = nI i
  | .inr (.inr (.inr (.inr (.inr (.inl (c, p)))))) => f (5 * m) = nI 100 ∧ f (5 * m + 1) = nI c ∧ f (5 * m + 2) = nI p
  | .inr (.inr (.inr (.inr (.inr (.inr i))))) => f (5 * m) = nI 102 ∧ f (5 * m + 1) = nI i
def pRC (n : Nat) (t : Nat → Nat) (w : WS) (y : Option Cmd) (q m : Nat) (f : Nat → Int32) : OT → WS → Prop := fun o w2 => o = .inl none ∧ ∃ m2 f2, RD w (eZ y, q) m2 f2 w2 ∧ ∀ c, y = some c → m2 = m + 1 ∧ (∀ i, i < 5 * m → f2 i = f i) ∧ hDf n t f2 m c
theorem u_sm {f : Nat → Int32} {j : Nat} {v : Int32} : upd f j v j = v := if_pos rfl
theorem u2 {f : Nat → Int32} {j : Nat} {a b : Int32} : upd (upd f j a) (j + 1) b j = a ∧ upd (upd f j a) (j + 1) b (j + 1) = b := ⟨by rw [pk_un (by omega), u_sm], u_sm⟩
theorem u3 {f : Nat → Int32} {j : Nat} {a b c : Int32} : upd (upd (upd f j a) (j + 1) b) (j + 2) c j = a ∧ upd (upd (upd f j a) (j + 1) b) (j + 2) c (j + 1) = b ∧ upd (upd (upd f j a) (j + 1) b) (j + 2) c (j + 2) = c := ⟨by rw [pk_un (by omega), pk_un (by omega), u_sm], by rw [pk_un (by omega), u_sm], u_sm⟩
set_option maxRecDepth 4000 in
theorem qX12_rc_0 {G : GX} {w x : WS} {n : Nat} {t : Nat → Nat} (hi : inM n t w) {p m : Nat} {f : Nat → Int32} (h : RD w (0, p) m f x) (hp : p ≤ n) {y : Option Cmd} {q : Nat} (e : cmdAt n t p = (y, q)) (hq : ¬ p < n) : ∃ o w2, (pRC n t w y q m f o w2) ∧ Big G 9 0 mX12_readCommand [.ref 115] x o w2 := by
  have hx := RD_in hi h
  have hn6 := hi.2.1
  unfold cmdAt at e
  rw [if_pos hq] at e
  refine bx_of (P := pRC n t w y q m f) (by decide +kernel) (Nat.le_of_ble_eq_true rfl) ?_
  show Ex G 9 0 mX12_readCommand 0 [some (.ref 115), none, none, none, none] [] x _
  refine ex_s (fun _ => ev_aload_n dX12_readCommand_0 rfl) ?_
  refine ex_s (fun _ => ev_getI fX12_230 dX12_readCommand_1 (by decide) sh115 rfl) ?_
  refine ex_s (fun _ => ev_top h.2.1) ?_
  refine ex_s (fun _ => ev_if_eq_t (tgt := 8) dX12_readCommand_4 (by decide) rfl) ?_
  refine ex_s (fun _ => ev_aload_n dX12_readCommand_8 rfl) ?_
  refine ex_s (fun _ => ev_getI fX12_233 dX12_readCommand_9 (by decide) sh115 rfl) ?_
  refine ex_s (fun _ => ev_top h.1) ?_
  refine ex_s (fun _ => ev_aload_n dX12_readCommand_12 rfl) ?_
  refine ex_s (fun _ => ev_getI fX12_135 dX12_readCommand_13 (by decide) sh115 rfl) ?_
  refine ex_s (fun _ => ev_top hx.1) ?_
  refine ex_s (fun _ => ev_icmp_ge_t (tgt := 31) dX12_readCommand_16 (by decide) (nI_le (by omega) (by omega))) ?_
  refine ex_s (fun _ => ev_iconst dX12_readCommand_31 ic0) ?_
  refine ex_s (fun _ => ev_ist1 dX12_readCommand_32 (by decide) rfl) ?_
  refine ex_s (fun _ => ev_ldc_psm rfl dX12_readCommand_33) ?_
  refine ex_s (fun _ => ev_iload_n dX12_readCommand_35 rfl) ?_
  refine ex_s (fun _ => ev_callVs (i := 1) kX12_127 (by decide) rfl (qJ0_indexOf_1 (n := 0) (by omega)) dX12_readCommand_36 rfl (by decide) (by decide) rfl) ?_
  rw [cI_n (c := 0) (by decide) (by decide) (by decide) (by decide) (by decide) (by decide) (by decide) (by decide)]
  refine ex_s (fun _ => ev_if_ge_f (tgt := 48) dX12_readCommand_39 (by decide) (by decide)) ?_
  refine ex_s (fun _ => ev_aload_n dX12_readCommand_42 rfl) ?_
  refine ex_s (fun _ => ev_iconst dX12_readCommand_43 ic1) ?_
  refine ex_s (fun _ => ev_put fX12_230 dX12_readCommand_44 rfl rfl (by decide) sh115 rfl) ?_
  exact ⟨_, _, (by cases e; exact ⟨rfl, _, _, RD_15 h 1, fun c hc => by cases hc⟩), ev_vret dX12_readCommand_47 rfl rfl rfl⟩
set_option maxRecDepth 4000 in
theorem qX12_rc_n {G : GX} {w x : WS} {n : Nat} {t : Nat → Nat} (hi : inM n t w) {p m : Nat} {f : Nat → Int32} (h : RD w (0, p) m f x) (hp : p ≤ n) {y : Option Cmd} {q : Nat} (e : cmdAt n t p = (y, q)) (hq : p < n) (h1 : t p ≠ 112) (h2 : t p ≠ 115) (h3 : t p ≠ 109) (h4 : t p ≠ 114) (h5 : t p ≠ 107) (h6 : t p ≠ 100) (h7 : t p ≠ 102) : ∃ o w2, (pRC n t w y q m f o w2) ∧ Big G 9 0 mX12_readCommand [.ref 115] x o w2 := by
  have hx := RD_in hi h
  have hn6 := hi.2.1
  have hc := hx.2.2 p hq
  unfold cmdAt at e
  rw [if_neg (fun z => z hq), if_neg h1, if_neg h2, if_neg h4, if_neg h6, if_neg h3, if_neg h5, if_neg h7] at e
  refine bx_of (P := pRC n t w y q m f) (by decide +kernel) (Nat.le_of_ble_eq_true rfl) ?_
  show Ex G 9 0 mX12_readCommand 0 [some (.ref 115), none, none, none, none] [] x _
  refine ex_s (fun _ => ev_aload_n dX12_readCommand_0 rfl) ?_
  refine ex_s (fun _ => ev_getI fX12_230 dX12_readCommand_1 (by decide) sh115 rfl) ?_
  refine ex_s (fun _ => ev_top h.2.1) ?_
  refine ex_s (fun _ => ev_if_eq_t (tgt := 8) dX12_readCommand_4 (by decide) rfl) ?_
  refine ex_s (fun _ => ev_aload_n dX12_readCommand_8 rfl) ?_
  refine ex_s (fun _ => ev_getI fX12_233 dX12_readCommand_9 (by decide) sh115 rfl) ?_
  refine ex_s (fun _ => ev_top h.1) ?_
  refine ex_s (fun _ => ev_aload_n dX12_readCommand_12 rfl) ?_
  refine ex_s (fun _ => ev_getI fX12_135 dX12_readCommand_13 (by decide) sh115 rfl) ?_
  refine ex_s (fun _ => ev_top hx.1) ?_
  refine ex_s (fun _ => ev_icmp_ge_f (tgt := 31) dX12_readCommand_16 (by decide) (nI_ge hq (by omega))) ?_
  refine ex_s (fun _ => ev_aload_n dX12_readCommand_19 rfl) ?_
  refine ex_s (fun _ => ev_getR fX12_33 dX12_readCommand_20 (by decide) sh115 rfl) ?_
  refine ex_s (fun _ => ev_aload_n dX12_readCommand_23 rfl) ?_
  refine ex_s (fun _ => ev_getI fX12_233 dX12_readCommand_24 (by decide) sh115 rfl) ?_
  refine ex_s (fun _ => ev_top h.1) ?_
  refine ex_s (fun _ => ev_caload dX12_readCommand_27 rfl (by omega) (by decide) sh123) ?_
  refine ex_s (fun _ => ev_top hc.1) ?_
  refine ex_s (fun _ => ev_goto (tgt := 32) dX12_readCommand_28 (by decide)) ?_
  refine ex_s (fun _ => ev_ist1 dX12_readCommand_32 (by decide) rfl) ?_
  refine ex_s (fun _ => ev_ldc_psm rfl dX12_readCommand_33) ?_
  refine ex_s (fun _ => ev_iload_n dX12_readCommand_35 rfl) ?_
  refine ex_s (fun _ => ev_callVs (i := 1) kX12_127 (by decide) rfl (qJ0_indexOf_1 (n := t p) (by omega)) dX12_readCommand_36 rfl (by decide) (by decide) rfl) ?_
  rw [cI_n (by omega) h1 h2 h3 h4 h5 h6 h7]
  refine ex_s (fun _ => ev_if_ge_f (tgt := 48) dX12_readCommand_39 (by decide) (by decide)) ?_
  refine ex_s (fun _ => ev_aload_n dX12_readCommand_42 rfl) ?_
  refine ex_s (fun _ => ev_iconst dX12_readCommand_43 ic1) ?_
  refine ex_s (fun _ => ev_put fX12_230 dX12_readCommand_44 rfl rfl (by decide) sh115 rfl) ?_
  exact ⟨_, _, (by cases e; exact ⟨rfl, _, _, RD_15 h 1, fun c hc => by cases hc⟩), ev_vret dX12_readCommand_47 rfl rfl rfl⟩
set_option maxRecDepth 4000 in
theorem qX12_rc_112 {G : GX} {w x : WS} {n : Nat} {t : Nat → Nat} (hi : inM n t w) {p m : Nat} {f : Nat → Int32} (h : RD w (0, p) m f x) (hp : p ≤ n) {y : Option Cmd} {q : Nat} (e : cmdAt n t p = (y, q)) (hq : p < n) (ht : t p = 112) (hm : m ≤ p) : ∃ o w2, (pRC n t w y q m f o w2) ∧ Big G 9 0 mX12_readCommand [.ref 115] x o w2 := by
  have hx := RD_in hi h
  have hn6 := hi.2.1
  have hc := hx.2.2 p hq
  unfold cmdAt at e
  rw [if_neg (fun z => z hq), if_pos ht] at e
  refine bx_of (P := pRC n t w y q m f) (by decide +kernel) (Nat.le_of_ble_eq_true rfl) ?_
  show Ex G 9 0 mX12_readCommand 0 [some (.ref 115), none, none, none, none] [] x _
  refine ex_s (fun _ => ev_aload_n dX12_readCommand_0 rfl) ?_
  refine ex_s (fun _ => ev_getI fX12_230 dX12_readCommand_1 (by decide) sh115 rfl) ?_
  refine ex_s (fun _ => ev_top h.2.1) ?_
  refine ex_s (fun _ => ev_if_eq_t (tgt := 8) dX12_readCommand_4 (by decide) rfl) ?_
  refine ex_s (fun _ => ev_aload_n dX12_readCommand_8 rfl) ?_
  refine ex_s (fun _ => ev_getI fX12_233 dX12_readCommand_9 (by decide) sh115 rfl) ?_
  refine ex_s (fun _ => ev_top h.1) ?_
  refine ex_s (fun _ => ev_aload_n dX12_readCommand_12 rfl) ?_
  refine ex_s (fun _ => ev_getI fX12_135 dX12_readCommand_13 (by decide) sh115 rfl) ?_
  refine ex_s (fun _ => ev_top hx.1) ?_
  refine ex_s (fun _ => ev_icmp_ge_f (tgt := 31) dX12_readCommand_16 (by decide) (nI_ge hq (by omega))) ?_
  refine ex_s (fun _ => ev_aload_n dX12_readCommand_19 rfl) ?_
  refine ex_s (fun _ => ev_getR fX12_33 dX12_readCommand_20 (by decide) sh115 rfl) ?_
  refine ex_s (fun _ => ev_aload_n dX12_readCommand_23 rfl) ?_
  refine ex_s (fun _ => ev_getI fX12_233 dX12_readCommand_24 (by decide) sh115 rfl) ?_
  refine ex_s (fun _ => ev_top h.1) ?_
  refine ex_s (fun _ => ev_caload dX12_readCommand_27 rfl (by omega) (by decide) sh123) ?_
  refine ex_s (fun _ => ev_top (hc.1.trans (by rw [ht]) : _ = nI 112)) ?_
  refine ex_s (fun _ => ev_goto (tgt := 32) dX12_readCommand_28 (by decide)) ?_
  refine ex_s (fun _ => ev_ist1 dX12_readCommand_32 (by decide) rfl) ?_
  refine ex_s (fun _ => ev_ldc_psm rfl dX12_readCommand_33) ?_
  refine ex_s (fun _ => ev_iload_n dX12_readCommand_35 rfl) ?_
  refine ex_s (fun _ => ev_callVs (i := 1) kX12_127 (by decide) rfl (qJ0_indexOf_1 (n := 112) (by omega)) dX12_readCommand_36 rfl (by decide) (by decide) rfl) ?_
  obtain ⟨k, hk, hk7⟩ := cI_y (c := 112) (by decide) (by decide)
  rw [hk]
  refine ex_s (fun _ => ev_if_ge_t (tgt := 48) dX12_readCommand_39 (by decide) (nI_le (Nat.zero_le k) (by omega))) ?_
  refine ex_s (fun _ => ev_aload_n dX12_readCommand_48 rfl) ?_
  refine ex_s (fun _ => ev_dup dX12_readCommand_49 rfl) ?_
  refine ex_s (fun _ => ev_getI fX12_233 dX12_readCommand_50 (by decide) sh115 rfl) ?_
  refine ex_s (fun _ => ev_top h.1) ?_
  refine ex_s (fun _ => ev_iconst dX12_readCommand_53 ic1) ?_
  refine ex_s (fun _ => ev_iadd dX12_readCommand_54) ?_
  first | refine ex_s (fun _ => ev_top (nI_add _ _)) ?_ | skip
  refine ex_s (fun _ => ev_put fX12_233 dX12_readCommand_55 rfl rfl (by decide) sh115 rfl) ?_
  refine ex_s (fun _ => ev_iconst dX12_readCommand_58 ic5) ?_
  refine ex_s (fun _ => ev_aload_n dX12_readCommand_59 rfl) ?_
  refine ex_s (fun _ => ev_getI fX12_254 dX12_readCommand_60 (by decide) sh115 rfl) ?_
  refine ex_s (fun _ => ev_top h.2.2.1) ?_
  refine ex_s (fun _ => ev_imul dX12_readCommand_63) ?_
  first | refine ex_s (fun _ => ev_top (pk_mul _ _)) ?_ | skip
  refine ex_s (fun _ => ev_ist2 dX12_readCommand_64 (by decide) rfl) ?_
  refine ex_s (fun _ => ev_aload_n dX12_readCommand_65 rfl) ?_
  refine ex_s (fun _ => ev_dup dX12_readCommand_66 rfl) ?_
  refine ex_s (fun _ => ev_getI fX12_254 dX12_readCommand_67 (by decide) sh115 rfl) ?_
  refine ex_s (fun _ => ev_top h.2.2.1) ?_
  refine ex_s (fun _ => ev_iconst dX12_readCommand_70 ic1) ?_
  refine ex_s (fun _ => ev_iadd dX12_readCommand_71) ?_
  first | refine ex_s (fun _ => ev_top (nI_add _ _)) ?_ | skip
  refine ex_s (fun _ => ev_put fX12_254 dX12_readCommand_72 rfl rfl (by decide) sh115 rfl) ?_
  refine ex_s (fun _ => ev_aload_n dX12_readCommand_75 rfl) ?_
  refine ex_s (fun _ => ev_getR fX12_40 dX12_readCommand_76 (by decide) sh115 rfl) ?_
  refine ex_s (fun _ => ev_iload_n dX12_readCommand_79 rfl) ?_
  refine ex_s (fun _ => ev_iload_n dX12_readCommand_80 rfl) ?_
  refine ex_s (fun _ => ev_iastore dX12_readCommand_81 rfl (by omega) rfl (by decide) sh124) ?_
  have h0 := RD_124 (RD_18 (RD_14 h (p + 1)) (m + 1)) (5 * m) (nI 112)
  refine ex_s (fun _ => ev_iload_n dX12_readCommand_82 rfl) ?_
  refine ex_s (fun _ => ev_lookup (tgt := 124) (off := 41) dX12_readCommand_83 (by decide) (by decide +kernel) (by decide)) ?_
  refine ex_s (fun _ => ev_aload_n dX12_readCommand_124 rfl) ?_
  refine ex_s (fun _ => ev_getR fX12_40 dX12_readCommand_125 (by decide) sh115 rfl) ?_
  refine ex_s (fun _ => ev_iload_n dX12_readCommand_128 rfl) ?_
  refine ex_s (fun _ => ev_iconst dX12_readCommand_129 ic1) ?_
  refine ex_s (fun _ => ev_iadd dX12_readCommand_130) ?_
  first | refine ex_s (fun _ => ev_top (nI_add _ _)) ?_ | skip
  refine ex_s (fun _ => ev_aload_n dX12_readCommand_131 rfl) ?_
  obtain ⟨_, x1, ⟨rfl, h1⟩, hB1⟩ := qX12_number (G := G) hi h0 (Nat.zero_le _) hq
  have k1 := nu_ok (n := n) (t := t) (s := (0, p + 1)) hq
  refine ex_s (fun _ => ev_callV kX12_244 co115 hB1 dX12_readCommand_132 rfl (by decide) (by decide) rfl) ?_
  refine ex_s (fun _ => ev_iastore dX12_readCommand_135 rfl (by omega) rfl (by decide) sh124) ?_
  have h1b := RD_124 h1 (5 * m + 1) (nI (nv n t (0, p + 1)))
  refine ex_s (fun _ => ev_iload_n dX12_readCommand_136 rfl) ?_
  refine ex_s (fun _ => ev_bipush (v := nI 112) dX12_readCommand_137 (by decide)) ?_
  refine ex_s (fun _ => ev_icmp_ne_f (tgt := 157) dX12_readCommand_139 (by decide) rfl) ?_
  refine ex_s (fun _ => ev_aload_n dX12_readCommand_142 rfl) ?_
  refine ex_s (fun _ => ev_bipush (v := nI 46) dX12_readCommand_143 (by decide)) ?_
  refine ex_s (fun _ => ev_bipush (v := nI 46) dX12_readCommand_145 (by decide)) ?_
  refine ex_s (fun _ => ev_callV kX12_236 co115 (qX12_isHere hi h1b k1.1 k1.2 (by decide) (by decide)) dX12_readCommand_147 rfl (by decide) (by decide) rfl) ?_
  refine ex_b0 (fun _ => ev_ifb_eq (tgt := 157) dX12_readCommand_150 (by decide)) (fun hc150 => ?_) (fun hc150 => ?_)
  · refine ex_s (fun _ => ev_iconst dX12_readCommand_157 ic0) ?_
    refine ex_s (fun _ => ev_ist4 dX12_readCommand_158 (by decide) rfl) ?_
    refine ex_s (fun _ => ev_aload_n dX12_readCommand_160 rfl) ?_
    refine ex_s (fun _ => ev_getR fX12_40 dX12_readCommand_161 (by decide) sh115 rfl) ?_
    refine ex_s (fun _ => ev_iload_n dX12_readCommand_164 rfl) ?_
    refine ex_s (fun _ => ev_iconst dX12_readCommand_165 ic2) ?_
    refine ex_s (fun _ => ev_iadd dX12_readCommand_166) ?_
    first | refine ex_s (fun _ => ev_top (nI_add _ _)) ?_ | skip
    refine ex_s (fun _ => ev_iload dX12_readCommand_167 rfl) ?_
    refine ex_s (fun _ => ev_if_eq_t (tgt := 185) dX12_readCommand_169 (by decide) rfl) ?_
    refine ex_s (fun _ => ev_aload_n dX12_readCommand_185 rfl) ?_
    refine ex_s (fun _ => ev_bipush (v := nI 97) dX12_readCommand_186 (by decide)) ?_
    refine ex_s (fun _ => ev_bipush (v := nI 100) dX12_readCommand_188 (by decide)) ?_
    obtain ⟨_, x2, ⟨rfl, h2⟩, hB2⟩ := qX12_sign (G := G) hi h1b k1.1 k1.2 (a := 97) (b := 100) (by decide) (by decide)
    refine ex_s (fun _ => ev_callV kX12_240 co115 hB2 dX12_readCommand_190 rfl (by decide) (by decide) rfl) ?_
    refine ex_s (fun _ => ev_iastore dX12_readCommand_193 rfl (by omega) rfl (by decide) sh124) ?_
    refine ex_s (fun _ => ev_goto (tgt := 257) dX12_readCommand_194 (by decide)) ?_
    exact ⟨_, _, (by exact ⟨rfl, _, _, (by rw [← (pa_n e hc150).1]; exact RD_124 h2 (5 * m + 2) _), fun c hc => ⟨rfl, fun i hl => by rw [pk_un (by omega), pk_un (by omega), pk_un (by omega)], by rw [(pa_n e hc150).2 c hc]; exact u3⟩⟩), ev_vret dX12_readCommand_257 rfl rfl rfl⟩
  · refine ex_s (fun _ => ev_iconst dX12_readCommand_153 ic1) ?_
    refine ex_s (fun _ => ev_goto (tgt := 158) dX12_readCommand_154 (by decide)) ?_
    refine ex_s (fun _ => ev_ist4 dX12_readCommand_158 (by decide) rfl) ?_
    refine ex_s (fun _ => ev_aload_n dX12_readCommand_160 rfl) ?_
    refine ex_s (fun _ => ev_getR fX12_40 dX12_readCommand_161 (by decide) sh115 rfl) ?_
    refine ex_s (fun _ => ev_iload_n dX12_readCommand_164 rfl) ?_
    refine ex_s (fun _ => ev_iconst dX12_readCommand_165 ic2) ?_
    refine ex_s (fun _ => ev_iadd dX12_readCommand_166) ?_
    first | refine ex_s (fun _ => ev_top (nI_add _ _)) ?_ | skip
    refine ex_s (fun _ => ev_iload dX12_readCommand_167 rfl) ?_
    refine ex_s (fun _ => ev_if_eq_f (tgt := 185) dX12_readCommand_169 (by decide) (by decide)) ?_
    refine ex_s (fun _ => ev_aload_n dX12_readCommand_172 rfl) ?_
    refine ex_s (fun _ => ev_bipush (v := nI 46) dX12_readCommand_173 (by decide)) ?_
    refine ex_s (fun _ => ev_bipush (v := nI 46) dX12_readCommand_175 (by decide)) ?_
    obtain ⟨_, x2, ⟨rfl, h2⟩, hB2⟩ := qX12_sign (G := G) hi h1b k1.1 k1.2 (a := 46) (b := 46) (by decide) (by decide)
    refine ex_s (fun _ => ev_callV kX12_240 co115 hB2 dX12_readCommand_177 rfl (by decide) (by decide) rfl) ?_
    refine ex_s (fun _ => ev_iconst dX12_readCommand_180 ic1) ?_
    refine ex_s (fun _ => ev_isub dX12_readCommand_181) ?_
    refine ex_s (fun _ => ev_top (y := -1) (by rw [show sv n t 46 46 (nu n t (0, p + 1)) = 0 by unfold sv; rw [if_pos hc150]; have q46 : 46 ≤ t (nu n t (0, p + 1)).2 ∧ t (nu n t (0, p + 1)).2 ≤ 46 := (of_decide_eq_true hc150).2.2; omega]; decide)) ?_
    refine ex_s (fun _ => ev_goto (tgt := 193) dX12_readCommand_182 (by decide)) ?_
    refine ex_s (fun _ => ev_iastore dX12_readCommand_193 rfl (by omega) rfl (by decide) sh124) ?_
    refine ex_s (fun _ => ev_goto (tgt := 257) dX12_readCommand_194 (by decide)) ?_
    exact ⟨_, _, (by exact ⟨rfl, _, _, (by rw [← (pa_y e hc150).1]; exact RD_124 h2 (5 * m + 2) _), fun c hc => ⟨rfl, fun i hl => by rw [pk_un (by omega), pk_un (by omega), pk_un (by omega)], by rw [(pa_y e hc150).2 c hc]; exact u3⟩⟩), ev_vret dX12_readCommand_257 rfl rfl rfl⟩
set_option maxRecDepth 4000 in
theorem qX12_rc_115 {G : GX} {w x : WS} {n : Nat} {t : Nat → Nat} (hi : inM n t w) {p m : Nat} {f : Nat → Int32} (h : RD w (0, p) m f x) (hp : p ≤ n) {y : Option Cmd} {q : Nat} (e : cmdAt n t p = (y, q)) (hq : p < n) (ht : t p = 115) (hm : m ≤ p) : ∃ o w2, (pRC n t w y q m f o w2) ∧ Big G 9 0 mX12_readCommand [.ref 115] x o w2 := by
  have hx := RD_in hi h
  have hn6 := hi.2.1
  have hc := hx.2.2 p hq
  unfold cmdAt at e
  rw [if_neg (fun z => z hq), if_neg (by omega), if_pos ht] at e
  refine bx_of (P := pRC n t w y q m f) (by decide +kernel) (Nat.le_of_ble_eq_true rfl) ?_
  show Ex G 9 0 mX12_readCommand 0 [some (.ref 115), none, none, none, none] [] x _
  refine ex_s (fun _ => ev_aload_n dX12_readCommand_0 rfl) ?_
  refine ex_s (fun _ => ev_getI fX12_230 dX12_readCommand_1 (by decide) sh115 rfl) ?_
  refine ex_s (fun _ => ev_top h.2.1) ?_
  refine ex_s (fun _ => ev_if_eq_t (tgt := 8) dX12_readCommand_4 (by decide) rfl) ?_
  refine ex_s (fun _ => ev_aload_n dX12_readCommand_8 rfl) ?_
  refine ex_s (fun _ => ev_getI fX12_233 dX12_readCommand_9 (by decide) sh115 rfl) ?_
  refine ex_s (fun _ => ev_top h.1) ?_
  refine ex_s (fun _ => ev_aload_n dX12_readCommand_12 rfl) ?_
  refine ex_s (fun _ => ev_getI fX12_135 dX12_readCommand_13 (by decide) sh115 rfl) ?_
  refine ex_s (fun _ => ev_top hx.1) ?_
  refine ex_s (fun _ => ev_icmp_ge_f (tgt := 31) dX12_readCommand_16 (by decide) (nI_ge hq (by omega))) ?_
  refine ex_s (fun _ => ev_aload_n dX12_readCommand_19 rfl) ?_
  refine ex_s (fun _ => ev_getR fX12_33 dX12_readCommand_20 (by decide) sh115 rfl) ?_
  refine ex_s (fun _ => ev_aload_n dX12_readCommand_23 rfl) ?_
  refine ex_s (fun _ => ev_getI fX12_233 dX12_readCommand_24 (by decide) sh115 rfl) ?_
  refine ex_s (fun _ => ev_top h.1) ?_
  refine ex_s (fun _ => ev_caload dX12_readCommand_27 rfl (by omega) (by decide) sh123) ?_
  refine ex_s (fun _ => ev_top (hc.1.trans (by rw [ht]) : _ = nI 115)) ?_
  refine ex_s (fun _ => ev_goto (tgt := 32) dX12_readCommand_28 (by decide)) ?_
  refine ex_s (fun _ => ev_ist1 dX12_readCommand_32 (by decide) rfl) ?_
  refine ex_s (fun _ => ev_ldc_psm rfl dX12_readCommand_33) ?_
  refine ex_s (fun _ => ev_iload_n dX12_readCommand_35 rfl) ?_
  refine ex_s (fun _ => ev_callVs (i := 1) kX12_127 (by decide) rfl (qJ0_indexOf_1 (n := 115) (by omega)) dX12_readCommand_36 rfl (by decide) (by decide) rfl) ?_
  obtain ⟨k, hk, hk7⟩ := cI_y (c := 115) (by decide) (by decide)
  rw [hk]
  refine ex_s (fun _ => ev_if_ge_t (tgt := 48) dX12_readCommand_39 (by decide) (nI_le (Nat.zero_le k) (by omega))) ?_
  refine ex_s (fun _ => ev_aload_n dX12_readCommand_48 rfl) ?_
  refine ex_s (fun _ => ev_dup dX12_readCommand_49 rfl) ?_
  refine ex_s (fun _ => ev_getI fX12_233 dX12_readCommand_50 (by decide) sh115 rfl) ?_
  refine ex_s (fun _ => ev_top h.1) ?_
  refine ex_s (fun _ => ev_iconst dX12_readCommand_53 ic1) ?_
  refine ex_s (fun _ => ev_iadd dX12_readCommand_54) ?_
  first | refine ex_s (fun _ => ev_top (nI_add _ _)) ?_ | skip
  refine ex_s (fun _ => ev_put fX12_233 dX12_readCommand_55 rfl rfl (by decide) sh115 rfl) ?_
  refine ex_s (fun _ => ev_iconst dX12_readCommand_58 ic5) ?_
  refine ex_s (fun _ => ev_aload_n dX12_readCommand_59 rfl) ?_
  refine ex_s (fun _ => ev_getI fX12_254 dX12_readCommand_60 (by decide) sh115 rfl) ?_
  refine ex_s (fun _ => ev_top h.2.2.1) ?_
  refine ex_s (fun _ => ev_imul dX12_readCommand_63) ?_
  first | refine ex_s (fun _ => ev_top (pk_mul _ _)) ?_ | skip
  refine ex_s (fun _ => ev_ist2 dX12_readCommand_64 (by decide) rfl) ?_
  refine ex_s (fun _ => ev_aload_n dX12_readCommand_65 rfl) ?_
  refine ex_s (fun _ => ev_dup dX12_readCommand_66 rfl) ?_
  refine ex_s (fun _ => ev_getI fX12_254 dX12_readCommand_67 (by decide) sh115 rfl) ?_
  refine ex_s (fun _ => ev_top h.2.2.1) ?_
  refine ex_s (fun _ => ev_iconst dX12_readCommand_70 ic1) ?_
  refine ex_s (fun _ => ev_iadd dX12_readCommand_71) ?_
  first | refine ex_s (fun _ => ev_top (nI_add _ _)) ?_ | skip
  refine ex_s (fun _ => ev_put fX12_254 dX12_readCommand_72 rfl rfl (by decide) sh115 rfl) ?_
  refine ex_s (fun _ => ev_aload_n dX12_readCommand_75 rfl) ?_
  refine ex_s (fun _ => ev_getR fX12_40 dX12_readCommand_76 (by decide) sh115 rfl) ?_
  refine ex_s (fun _ => ev_iload_n dX12_readCommand_79 rfl) ?_
  refine ex_s (fun _ => ev_iload_n dX12_readCommand_80 rfl) ?_
  refine ex_s (fun _ => ev_iastore dX12_readCommand_81 rfl (by omega) rfl (by decide) sh124) ?_
  have h0 := RD_124 (RD_18 (RD_14 h (p + 1)) (m + 1)) (5 * m) (nI 115)
  refine ex_s (fun _ => ev_iload_n dX12_readCommand_82 rfl) ?_
  refine ex_s (fun _ => ev_lookup (tgt := 124) (off := 41) dX12_readCommand_83 (by decide) (by decide +kernel) (by decide)) ?_
  refine ex_s (fun _ => ev_aload_n dX12_readCommand_124 rfl) ?_
  refine ex_s (fun _ => ev_getR fX12_40 dX12_readCommand_125 (by decide) sh115 rfl) ?_
  refine ex_s (fun _ => ev_iload_n dX12_readCommand_128 rfl) ?_
  refine ex_s (fun _ => ev_iconst dX12_readCommand_129 ic1) ?_
  refine ex_s (fun _ => ev_iadd dX12_readCommand_130) ?_
  first | refine ex_s (fun _ => ev_top (nI_add _ _)) ?_ | skip
  refine ex_s (fun _ => ev_aload_n dX12_readCommand_131 rfl) ?_
  obtain ⟨_, x1, ⟨rfl, h1⟩, hB1⟩ := qX12_number (G := G) hi h0 (Nat.zero_le _) hq
  have k1 := nu_ok (n := n) (t := t) (s := (0, p + 1)) hq
  refine ex_s (fun _ => ev_callV kX12_244 co115 hB1 dX12_readCommand_132 rfl (by decide) (by decide) rfl) ?_
  refine ex_s (fun _ => ev_iastore dX12_readCommand_135 rfl (by omega) rfl (by decide) sh124) ?_
  have h1b := RD_124 h1 (5 * m + 1) (nI (nv n t (0, p + 1)))
  refine ex_s (fun _ => ev_iload_n dX12_readCommand_136 rfl) ?_
  refine ex_s (fun _ => ev_bipush (v := nI 112) dX12_readCommand_137 (by decide)) ?_
  refine ex_s (fun _ => ev_icmp_ne_t (tgt := 157) dX12_readCommand_139 (by decide) (by decide)) ?_
  refine ex_s (fun _ => ev_iconst dX12_readCommand_157 ic0) ?_
  refine ex_s (fun _ => ev_ist4 dX12_readCommand_158 (by decide) rfl) ?_
  refine ex_s (fun _ => ev_aload_n dX12_readCommand_160 rfl) ?_
  refine ex_s (fun _ => ev_getR fX12_40 dX12_readCommand_161 (by decide) sh115 rfl) ?_
  refine ex_s (fun _ => ev_iload_n dX12_readCommand_164 rfl) ?_
  refine ex_s (fun _ => ev_iconst dX12_readCommand_165 ic2) ?_
  refine ex_s (fun _ => ev_iadd dX12_readCommand_166) ?_
  first | refine ex_s (fun _ => ev_top (nI_add _ _)) ?_ | skip
  refine ex_s (fun _ => ev_iload dX12_readCommand_167 rfl) ?_
  refine ex_s (fun _ => ev_if_eq_t (tgt := 185) dX12_readCommand_169 (by decide) rfl) ?_
  refine ex_s (fun _ => ev_aload_n dX12_readCommand_185 rfl) ?_
  refine ex_s (fun _ => ev_bipush (v := nI 97) dX12_readCommand_186 (by decide)) ?_
  refine ex_s (fun _ => ev_bipush (v := nI 100) dX12_readCommand_188 (by decide)) ?_
  obtain ⟨_, x2, ⟨rfl, h2⟩, hB2⟩ := qX12_sign (G := G) hi h1b k1.1 k1.2 (a := 97) (b := 100) (by decide) (by decide)
  refine ex_s (fun _ => ev_callV kX12_240 co115 hB2 dX12_readCommand_190 rfl (by decide) (by decide) rfl) ?_
  refine ex_s (fun _ => ev_iastore dX12_readCommand_193 rfl (by omega) rfl (by decide) sh124) ?_
  refine ex_s (fun _ => ev_goto (tgt := 257) dX12_readCommand_194 (by decide)) ?_
  exact ⟨_, _, (by exact ⟨rfl, _, _, (by rw [← (sh_s e).1]; exact RD_124 h2 (5 * m + 2) _), fun c hc => ⟨rfl, fun i hl => by rw [pk_un (by omega), pk_un (by omega), pk_un (by omega)], by rw [(sh_s e).2 c hc]; exact u3⟩⟩), ev_vret dX12_readCommand_257 rfl rfl rfl⟩
set_option maxRecDepth 4000 in
theorem qX12_rc_109 {G : GX} {w x : WS} {n : Nat} {t : Nat → Nat} (hi : inM n t w) {p m : Nat} {f : Nat → Int32} (h : RD w (0, p) m f x) (hp : p ≤ n) {y : Option Cmd} {q : Nat} (e : cmdAt n t p = (y, q)) (hq : p < n) (ht : t p = 109) (hm : m ≤ p) : ∃ o w2, (pRC n t w y q m f o w2) ∧ Big G 9 0 mX12_readCommand [.ref 115] x o w2 := by
  have hx := RD_in hi h
  have hn6 := hi.2.1
  have hc := hx.2.2 p hq
  unfold cmdAt at e
  rw [if_neg (fun z => z hq), if_neg (by omega), if_neg (by omega), if_neg (by omega), if_neg (by omega), if_pos ht] at e
  refine bx_of (P := pRC n t w y q m f) (by decide +kernel) (Nat.le_of_ble_eq_true rfl) ?_
  show Ex G 9 0 mX12_readCommand 0 [some (.ref 115), none, none, none, none] [] x _
  refine ex_s (fun _ => ev_aload_n dX12_readCommand_0 rfl) ?_
  refine ex_s (fun _ => ev_getI fX12_230 dX12_readCommand_1 (by decide) sh115 rfl) ?_
  refine ex_s (fun _ => ev_top h.2.1) ?_
  refine ex_s (fun _ => ev_if_eq_t (tgt := 8) dX12_readCommand_4 (by decide) rfl) ?_
  refine ex_s (fun _ => ev_aload_n dX12_readCommand_8 rfl) ?_
  refine ex_s (fun _ => ev_getI fX12_233 dX12_readCommand_9 (by decide) sh115 rfl) ?_
  refine ex_s (fun _ => ev_top h.1) ?_
  refine ex_s (fun _ => ev_aload_n dX12_readCommand_12 rfl) ?_
  refine ex_s (fun _ => ev_getI fX12_135 dX12_readCommand_13 (by decide) sh115 rfl) ?_
  refine ex_s (fun _ => ev_top hx.1) ?_
  refine ex_s (fun _ => ev_icmp_ge_f (tgt := 31) dX12_readCommand_16 (by decide) (nI_ge hq (by omega))) ?_
  refine ex_s (fun _ => ev_aload_n dX12_readCommand_19 rfl) ?_
  refine ex_s (fun _ => ev_getR fX12_33 dX12_readCommand_20 (by decide) sh115 rfl) ?_
  refine ex_s (fun _ => ev_aload_n dX12_readCommand_23 rfl) ?_
  refine ex_s (fun _ => ev_getI fX12_233 dX12_readCommand_24 (by decide) sh115 rfl) ?_
  refine ex_s (fun _ => ev_top h.1) ?_
  refine ex_s (fun _ => ev_caload dX12_readCommand_27 rfl (by omega) (by decide) sh123) ?_
  refine ex_s (fun _ => ev_top (hc.1.trans (by rw [ht]) : _ = nI 109)) ?_
  refine ex_s (fun _ => ev_goto (tgt := 32) dX12_readCommand_28 (by decide)) ?_
  refine ex_s (fun _ => ev_ist1 dX12_readCommand_32 (by decide) rfl) ?_
  refine ex_s (fun _ => ev_ldc_psm rfl dX12_readCommand_33) ?_
  refine ex_s (fun _ => ev_iload_n dX12_readCommand_35 rfl) ?_
  refine ex_s (fun _ => ev_callVs (i := 1) kX12_127 (by decide) rfl (qJ0_indexOf_1 (n := 109) (by omega)) dX12_readCommand_36 rfl (by decide) (by decide) rfl) ?_
  obtain ⟨k, hk, hk7⟩ := cI_y (c := 109) (by decide) (by decide)
  rw [hk]
  refine ex_s (fun _ => ev_if_ge_t (tgt := 48) dX12_readCommand_39 (by decide) (nI_le (Nat.zero_le k) (by omega))) ?_
  refine ex_s (fun _ => ev_aload_n dX12_readCommand_48 rfl) ?_
  refine ex_s (fun _ => ev_dup dX12_readCommand_49 rfl) ?_
  refine ex_s (fun _ => ev_getI fX12_233 dX12_readCommand_50 (by decide) sh115 rfl) ?_
  refine ex_s (fun _ => ev_top h.1) ?_
  refine ex_s (fun _ => ev_iconst dX12_readCommand_53 ic1) ?_
  refine ex_s (fun _ => ev_iadd dX12_readCommand_54) ?_
  first | refine ex_s (fun _ => ev_top (nI_add _ _)) ?_ | skip
  refine ex_s (fun _ => ev_put fX12_233 dX12_readCommand_55 rfl rfl (by decide) sh115 rfl) ?_
  refine ex_s (fun _ => ev_iconst dX12_readCommand_58 ic5) ?_
  refine ex_s (fun _ => ev_aload_n dX12_readCommand_59 rfl) ?_
  refine ex_s (fun _ => ev_getI fX12_254 dX12_readCommand_60 (by decide) sh115 rfl) ?_
  refine ex_s (fun _ => ev_top h.2.2.1) ?_
  refine ex_s (fun _ => ev_imul dX12_readCommand_63) ?_
  first | refine ex_s (fun _ => ev_top (pk_mul _ _)) ?_ | skip
  refine ex_s (fun _ => ev_ist2 dX12_readCommand_64 (by decide) rfl) ?_
  refine ex_s (fun _ => ev_aload_n dX12_readCommand_65 rfl) ?_
  refine ex_s (fun _ => ev_dup dX12_readCommand_66 rfl) ?_
  refine ex_s (fun _ => ev_getI fX12_254 dX12_readCommand_67 (by decide) sh115 rfl) ?_
  refine ex_s (fun _ => ev_top h.2.2.1) ?_
  refine ex_s (fun _ => ev_iconst dX12_readCommand_70 ic1) ?_
  refine ex_s (fun _ => ev_iadd dX12_readCommand_71) ?_
  first | refine ex_s (fun _ => ev_top (nI_add _ _)) ?_ | skip
  refine ex_s (fun _ => ev_put fX12_254 dX12_readCommand_72 rfl rfl (by decide) sh115 rfl) ?_
  refine ex_s (fun _ => ev_aload_n dX12_readCommand_75 rfl) ?_
  refine ex_s (fun _ => ev_getR fX12_40 dX12_readCommand_76 (by decide) sh115 rfl) ?_
  refine ex_s (fun _ => ev_iload_n dX12_readCommand_79 rfl) ?_
  refine ex_s (fun _ => ev_iload_n dX12_readCommand_80 rfl) ?_
  refine ex_s (fun _ => ev_iastore dX12_readCommand_81 rfl (by omega) rfl (by decide) sh124) ?_
  have h0 := RD_124 (RD_18 (RD_14 h (p + 1)) (m + 1)) (5 * m) (nI 109)
  refine ex_s (fun _ => ev_iload_n dX12_readCommand_82 rfl) ?_
  refine ex_s (fun _ => ev_lookup (tgt := 241) (off := 158) dX12_readCommand_83 (by decide) (by decide +kernel) (by decide)) ?_
  refine ex_s (fun _ => ev_aload_n dX12_readCommand_241 rfl) ?_
  refine ex_s (fun _ => ev_getR fX12_40 dX12_readCommand_242 (by decide) sh115 rfl) ?_
  refine ex_s (fun _ => ev_iload_n dX12_readCommand_245 rfl) ?_
  refine ex_s (fun _ => ev_iconst dX12_readCommand_246 ic1) ?_
  refine ex_s (fun _ => ev_iadd dX12_readCommand_247) ?_
  first | refine ex_s (fun _ => ev_top (nI_add _ _)) ?_ | skip
  refine ex_s (fun _ => ev_aload_n dX12_readCommand_248 rfl) ?_
  refine ex_s (fun _ => ev_bipush (v := nI 48) dX12_readCommand_249 (by decide)) ?_
  refine ex_s (fun _ => ev_bipush (v := nI 57) dX12_readCommand_251 (by decide)) ?_
  obtain ⟨_, x2, ⟨rfl, h2⟩, hB2⟩ := qX12_sign (G := G) hi h0 (Nat.zero_le _) hq (a := 48) (b := 57) (by decide) (by decide)
  refine ex_s (fun _ => ev_callV kX12_240 co115 hB2 dX12_readCommand_253 rfl (by decide) (by decide) rfl) ?_
  refine ex_s (fun _ => ev_iastore dX12_readCommand_256 rfl (by omega) rfl (by decide) sh124) ?_
  exact ⟨_, _, (by exact ⟨rfl, _, _, (by rw [← (dg_c e).1]; exact RD_124 h2 (5 * m + 1) _), fun c hc => ⟨rfl, fun i hl => by rw [pk_un (by omega), pk_un (by omega)], by rw [(dg_c e).2 c hc]; exact u2⟩⟩), ev_vret dX12_readCommand_257 rfl rfl rfl⟩
set_option maxRecDepth 4000 in
theorem qX12_rc_107 {G : GX} {w x : WS} {n : Nat} {t : Nat → Nat} (hi : inM n t w) {p m : Nat} {f : Nat → Int32} (h : RD w (0, p) m f x) (hp : p ≤ n) {y : Option Cmd} {q : Nat} (e : cmdAt n t p = (y, q)) (hq : p < n) (ht : t p = 107) (hm : m ≤ p) : ∃ o w2, (pRC n t w y q m f o w2) ∧ Big G 9 0 mX12_readCommand [.ref 115] x o w2 := by
  have hx := RD_in hi h
  have hn6 := hi.2.1
  have hc := hx.2.2 p hq
  unfold cmdAt at e
  rw [if_neg (fun z => z hq), if_neg (by omega), if_neg (by omega), if_neg (by omega), if_neg (by omega), if_neg (by omega), if_pos ht] at e
  refine bx_of (P := pRC n t w y q m f) (by decide +kernel) (Nat.le_of_ble_eq_true rfl) ?_
  show Ex G 9 0 mX12_readCommand 0 [some (.ref 115), none, none, none, none] [] x _
  refine ex_s (fun _ => ev_aload_n dX12_readCommand_0 rfl) ?_
  refine ex_s (fun _ => ev_getI fX12_230 dX12_readCommand_1 (by decide) sh115 rfl) ?_
  refine ex_s (fun _ => ev_top h.2.1) ?_
  refine ex_s (fun _ => ev_if_eq_t (tgt := 8) dX12_readCommand_4 (by decide) rfl) ?_
  refine ex_s (fun _ => ev_aload_n dX12_readCommand_8 rfl) ?_
  refine ex_s (fun _ => ev_getI fX12_233 dX12_readCommand_9 (by decide) sh115 rfl) ?_
  refine ex_s (fun _ => ev_top h.1) ?_
  refine ex_s (fun _ => ev_aload_n dX12_readCommand_12 rfl) ?_
  refine ex_s (fun _ => ev_getI fX12_135 dX12_readCommand_13 (by decide) sh115 rfl) ?_
  refine ex_s (fun _ => ev_top hx.1) ?_
  refine ex_s (fun _ => ev_icmp_ge_f (tgt := 31) dX12_readCommand_16 (by decide) (nI_ge hq (by omega))) ?_
  refine ex_s (fun _ => ev_aload_n dX12_readCommand_19 rfl) ?_
  refine ex_s (fun _ => ev_getR fX12_33 dX12_readCommand_20 (by decide) sh115 rfl) ?_
  refine ex_s (fun _ => ev_aload_n dX12_readCommand_23 rfl) ?_
  refine ex_s (fun _ => ev_getI fX12_233 dX12_readCommand_24 (by decide) sh115 rfl) ?_
  refine ex_s (fun _ => ev_top h.1) ?_
  refine ex_s (fun _ => ev_caload dX12_readCommand_27 rfl (by omega) (by decide) sh123) ?_
  refine ex_s (fun _ => ev_top (hc.1.trans (by rw [ht]) : _ = nI 107)) ?_
  refine ex_s (fun _ => ev_goto (tgt := 32) dX12_readCommand_28 (by decide)) ?_
  refine ex_s (fun _ => ev_ist1 dX12_readCommand_32 (by decide) rfl) ?_
  refine ex_s (fun _ => ev_ldc_psm rfl dX12_readCommand_33) ?_
  refine ex_s (fun _ => ev_iload_n dX12_readCommand_35 rfl) ?_
  refine ex_s (fun _ => ev_callVs (i := 1) kX12_127 (by decide) rfl (qJ0_indexOf_1 (n := 107) (by omega)) dX12_readCommand_36 rfl (by decide) (by decide) rfl) ?_
  obtain ⟨k, hk, hk7⟩ := cI_y (c := 107) (by decide) (by decide)
  rw [hk]
  refine ex_s (fun _ => ev_if_ge_t (tgt := 48) dX12_readCommand_39 (by decide) (nI_le (Nat.zero_le k) (by omega))) ?_
  refine ex_s (fun _ => ev_aload_n dX12_readCommand_48 rfl) ?_
  refine ex_s (fun _ => ev_dup dX12_readCommand_49 rfl) ?_
  refine ex_s (fun _ => ev_getI fX12_233 dX12_readCommand_50 (by decide) sh115 rfl) ?_
  refine ex_s (fun _ => ev_top h.1) ?_
  refine ex_s (fun _ => ev_iconst dX12_readCommand_53 ic1) ?_
  refine ex_s (fun _ => ev_iadd dX12_readCommand_54) ?_
  first | refine ex_s (fun _ => ev_top (nI_add _ _)) ?_ | skip
  refine ex_s (fun _ => ev_put fX12_233 dX12_readCommand_55 rfl rfl (by decide) sh115 rfl) ?_
  refine ex_s (fun _ => ev_iconst dX12_readCommand_58 ic5) ?_
  refine ex_s (fun _ => ev_aload_n dX12_readCommand_59 rfl) ?_
  refine ex_s (fun _ => ev_getI fX12_254 dX12_readCommand_60 (by decide) sh115 rfl) ?_
  refine ex_s (fun _ => ev_top h.2.2.1) ?_
  refine ex_s (fun _ => ev_imul dX12_readCommand_63) ?_
  first | refine ex_s (fun _ => ev_top (pk_mul _ _)) ?_ | skip
  refine ex_s (fun _ => ev_ist2 dX12_readCommand_64 (by decide) rfl) ?_
  refine ex_s (fun _ => ev_aload_n dX12_readCommand_65 rfl) ?_
  refine ex_s (fun _ => ev_dup dX12_readCommand_66 rfl) ?_
  refine ex_s (fun _ => ev_getI fX12_254 dX12_readCommand_67 (by decide) sh115 rfl) ?_
  refine ex_s (fun _ => ev_top h.2.2.1) ?_
  refine ex_s (fun _ => ev_iconst dX12_readCommand_70 ic1) ?_
  refine ex_s (fun _ => ev_iadd dX12_readCommand_71) ?_
  first | refine ex_s (fun _ => ev_top (nI_add _ _)) ?_ | skip
  refine ex_s (fun _ => ev_put fX12_254 dX12_readCommand_72 rfl rfl (by decide) sh115 rfl) ?_
  refine ex_s (fun _ => ev_aload_n dX12_readCommand_75 rfl) ?_
  refine ex_s (fun _ => ev_getR fX12_40 dX12_readCommand_76 (by decide) sh115 rfl) ?_
  refine ex_s (fun _ => ev_iload_n dX12_readCommand_79 rfl) ?_
  refine ex_s (fun _ => ev_iload_n dX12_readCommand_80 rfl) ?_
  refine ex_s (fun _ => ev_iastore dX12_readCommand_81 rfl (by omega) rfl (by decide) sh124) ?_
  have h0 := RD_124 (RD_18 (RD_14 h (p + 1)) (m + 1)) (5 * m) (nI 107)
  refine ex_s (fun _ => ev_iload_n dX12_readCommand_82 rfl) ?_
  refine ex_s (fun _ => ev_lookup (tgt := 241) (off := 158) dX12_readCommand_83 (by decide) (by decide +kernel) (by decide)) ?_
  refine ex_s (fun _ => ev_aload_n dX12_readCommand_241 rfl) ?_
  refine ex_s (fun _ => ev_getR fX12_40 dX12_readCommand_242 (by decide) sh115 rfl) ?_
  refine ex_s (fun _ => ev_iload_n dX12_readCommand_245 rfl) ?_
  refine ex_s (fun _ => ev_iconst dX12_readCommand_246 ic1) ?_
  refine ex_s (fun _ => ev_iadd dX12_readCommand_247) ?_
  first | refine ex_s (fun _ => ev_top (nI_add _ _)) ?_ | skip
  refine ex_s (fun _ => ev_aload_n dX12_readCommand_248 rfl) ?_
  refine ex_s (fun _ => ev_bipush (v := nI 48) dX12_readCommand_249 (by decide)) ?_
  refine ex_s (fun _ => ev_bipush (v := nI 57) dX12_readCommand_251 (by decide)) ?_
  obtain ⟨_, x2, ⟨rfl, h2⟩, hB2⟩ := qX12_sign (G := G) hi h0 (Nat.zero_le _) hq (a := 48) (b := 57) (by decide) (by decide)
  refine ex_s (fun _ => ev_callV kX12_240 co115 hB2 dX12_readCommand_253 rfl (by decide) (by decide) rfl) ?_
  refine ex_s (fun _ => ev_iastore dX12_readCommand_256 rfl (by omega) rfl (by decide) sh124) ?_
  exact ⟨_, _, (by exact ⟨rfl, _, _, (by rw [← (dg_c e).1]; exact RD_124 h2 (5 * m + 1) _), fun c hc => ⟨rfl, fun i hl => by rw [pk_un (by omega), pk_un (by omega)], by rw [(dg_c e).2 c hc]; exact u2⟩⟩), ev_vret dX12_readCommand_257 rfl rfl rfl⟩
set_option maxRecDepth 4000 in
theorem qX12_rc_102 {G : GX} {w x : WS} {n : Nat} {t : Nat → Nat} (hi : inM n t w) {p m : Nat} {f : Nat → Int32} (h : RD w (0, p) m f x) (hp : p ≤ n) {y : Option Cmd} {q : Nat} (e : cmdAt n t p = (y, q)) (hq : p < n) (ht : t p = 102) (hm : m ≤ p) : ∃ o w2, (pRC n t w y q m f o w2) ∧ Big G 9 0 mX12_readCommand [.ref 115] x o w2 := by
  have hx := RD_in hi h
  have hn6 := hi.2.1
  have hc := hx.2.2 p hq
  unfold cmdAt at e
  rw [if_neg (fun z => z hq), if_neg (by omega), if_neg (by omega), if_neg (by omega), if_neg (by omega), if_neg (by omega), if_neg (by omega), if_pos ht] at e
  refine bx_of (P := pRC n t w y q m f) (by decide +kernel) (Nat.le_of_ble_eq_true rfl) ?_
  show Ex G 9 0 mX12_readCommand 0 [some (.ref 115), none, none, none, none] [] x _
  refine ex_s (fun _ => ev_aload_n dX12_readCommand_0 rfl) ?_
  refine ex_s (fun _ => ev_getI fX12_230 dX12_readCommand_1 (by decide) sh115 rfl) ?_
  refine ex_s (fun _ => ev_top h.2.1) ?_
  refine ex_s (fun _ => ev_if_eq_t (tgt := 8) dX12_readCommand_4 (by decide) rfl) ?_
  refine ex_s (fun _ => ev_aload_n dX12_readCommand_8 rfl) ?_
  refine ex_s (fun _ => ev_getI fX12_233 dX12_readCommand_9 (by decide) sh115 rfl) ?_
  refine ex_s (fun _ => ev_top h.1) ?_
  refine ex_s (fun _ => ev_aload_n dX12_readCommand_12 rfl) ?_
  refine ex_s (fun _ => ev_getI fX12_135 dX12_readCommand_13 (by decide) sh115 rfl) ?_
  refine ex_s (fun _ => ev_top hx.1) ?_
  refine ex_s (fun _ => ev_icmp_ge_f (tgt := 31) dX12_readCommand_16 (by decide) (nI_ge hq (by omega))) ?_
  refine ex_s (fun _ => ev_aload_n dX12_readCommand_19 rfl) ?_
  refine ex_s (fun _ => ev_getR fX12_33 dX12_readCommand_20 (by decide) sh115 rfl) ?_
  refine ex_s (fun _ => ev_aload_n dX12_readCommand_23 rfl) ?_
  refine ex_s (fun _ => ev_getI fX12_233 dX12_readCommand_24 (by decide) sh115 rfl) ?_
  refine ex_s (fun _ => ev_top h.1) ?_
  refine ex_s (fun _ => ev_caload dX12_readCommand_27 rfl (by omega) (by decide) sh123) ?_
  refine ex_s (fun _ => ev_top (hc.1.trans (by rw [ht]) : _ = nI 102)) ?_
  refine ex_s (fun _ => ev_goto (tgt := 32) dX12_readCommand_28 (by decide)) ?_
  refine ex_s (fun _ => ev_ist1 dX12_readCommand_32 (by decide) rfl) ?_
  refine ex_s (fun _ => ev_ldc_psm rfl dX12_readCommand_33) ?_
  refine ex_s (fun _ => ev_iload_n dX12_readCommand_35 rfl) ?_
  refine ex_s (fun _ => ev_callVs (i := 1) kX12_127 (by decide) rfl (qJ0_indexOf_1 (n := 102) (by omega)) dX12_readCommand_36 rfl (by decide) (by decide) rfl) ?_
  obtain ⟨k, hk, hk7⟩ := cI_y (c := 102) (by decide) (by decide)
  rw [hk]
  refine ex_s (fun _ => ev_if_ge_t (tgt := 48) dX12_readCommand_39 (by decide) (nI_le (Nat.zero_le k) (by omega))) ?_
  refine ex_s (fun _ => ev_aload_n dX12_readCommand_48 rfl) ?_
  refine ex_s (fun _ => ev_dup dX12_readCommand_49 rfl) ?_
  refine ex_s (fun _ => ev_getI fX12_233 dX12_readCommand_50 (by decide) sh115 rfl) ?_
  refine ex_s (fun _ => ev_top h.1) ?_
  refine ex_s (fun _ => ev_iconst dX12_readCommand_53 ic1) ?_
  refine ex_s (fun _ => ev_iadd dX12_readCommand_54) ?_
  first | refine ex_s (fun _ => ev_top (nI_add _ _)) ?_ | skip
  refine ex_s (fun _ => ev_put fX12_233 dX12_readCommand_55 rfl rfl (by decide) sh115 rfl) ?_
  refine ex_s (fun _ => ev_iconst dX12_readCommand_58 ic5) ?_
  refine ex_s (fun _ => ev_aload_n dX12_readCommand_59 rfl) ?_
  refine ex_s (fun _ => ev_getI fX12_254 dX12_readCommand_60 (by decide) sh115 rfl) ?_
  refine ex_s (fun _ => ev_top h.2.2.1) ?_
  refine ex_s (fun _ => ev_imul dX12_readCommand_63) ?_
  first | refine ex_s (fun _ => ev_top (pk_mul _ _)) ?_ | skip
  refine ex_s (fun _ => ev_ist2 dX12_readCommand_64 (by decide) rfl) ?_
  refine ex_s (fun _ => ev_aload_n dX12_readCommand_65 rfl) ?_
  refine ex_s (fun _ => ev_dup dX12_readCommand_66 rfl) ?_
  refine ex_s (fun _ => ev_getI fX12_254 dX12_readCommand_67 (by decide) sh115 rfl) ?_
  refine ex_s (fun _ => ev_top h.2.2.1) ?_
  refine ex_s (fun _ => ev_iconst dX12_readCommand_70 ic1) ?_
  refine ex_s (fun _ => ev_iadd dX12_readCommand_71) ?_
  first | refine ex_s (fun _ => ev_top (nI_add _ _)) ?_ | skip
  refine ex_s (fun _ => ev_put fX12_254 dX12_readCommand_72 rfl rfl (by decide) sh115 rfl) ?_
  refine ex_s (fun _ => ev_aload_n dX12_readCommand_75 rfl) ?_
  refine ex_s (fun _ => ev_getR fX12_40 dX12_readCommand_76 (by decide) sh115 rfl) ?_
  refine ex_s (fun _ => ev_iload_n dX12_readCommand_79 rfl) ?_
  refine ex_s (fun _ => ev_iload_n dX12_readCommand_80 rfl) ?_
  refine ex_s (fun _ => ev_iastore dX12_readCommand_81 rfl (by omega) rfl (by decide) sh124) ?_
  have h0 := RD_124 (RD_18 (RD_14 h (p + 1)) (m + 1)) (5 * m) (nI 102)
  refine ex_s (fun _ => ev_iload_n dX12_readCommand_82 rfl) ?_
  refine ex_s (fun _ => ev_lookup (tgt := 241) (off := 158) dX12_readCommand_83 (by decide) (by decide +kernel) (by decide)) ?_
  refine ex_s (fun _ => ev_aload_n dX12_readCommand_241 rfl) ?_
  refine ex_s (fun _ => ev_getR fX12_40 dX12_readCommand_242 (by decide) sh115 rfl) ?_
  refine ex_s (fun _ => ev_iload_n dX12_readCommand_245 rfl) ?_
  refine ex_s (fun _ => ev_iconst dX12_readCommand_246 ic1) ?_
  refine ex_s (fun _ => ev_iadd dX12_readCommand_247) ?_
  first | refine ex_s (fun _ => ev_top (nI_add _ _)) ?_ | skip
  refine ex_s (fun _ => ev_aload_n dX12_readCommand_248 rfl) ?_
  refine ex_s (fun _ => ev_bipush (v := nI 48) dX12_readCommand_249 (by decide)) ?_
  refine ex_s (fun _ => ev_bipush (v := nI 57) dX12_readCommand_251 (by decide)) ?_
  obtain ⟨_, x2, ⟨rfl, h2⟩, hB2⟩ := qX12_sign (G := G) hi h0 (Nat.zero_le _) hq (a := 48) (b := 57) (by decide) (by decide)
  refine ex_s (fun _ => ev_callV kX12_240 co115 hB2 dX12_readCommand_253 rfl (by decide) (by decide) rfl) ?_
  refine ex_s (fun _ => ev_iastore dX12_readCommand_256 rfl (by omega) rfl (by decide) sh124) ?_
  exact ⟨_, _, (by exact ⟨rfl, _, _, (by rw [← (dg_c e).1]; exact RD_124 h2 (5 * m + 1) _), fun c hc => ⟨rfl, fun i hl => by rw [pk_un (by omega), pk_un (by omega)], by rw [(dg_c e).2 c hc]; exact u2⟩⟩), ev_vret dX12_readCommand_257 rfl rfl rfl⟩
set_option maxRecDepth 4000 in
theorem qX12_rc_100 {G : GX} {w x : WS} {n : Nat} {t : Nat → Nat} (hi : inM n t w) {p m : Nat} {f : Nat → Int32} (h : RD w (0, p) m f x) (hp : p ≤ n) {y : Option Cmd} {q : Nat} (e : cmdAt n t p = (y, q)) (hq : p < n) (ht : t p = 100) (hm : m ≤ p) : ∃ o w2, (pRC n t w y q m f o w2) ∧ Big G 9 0 mX12_readCommand [.ref 115] x o w2 := by
  have hx := RD_in hi h
  have hn6 := hi.2.1
  have hc := hx.2.2 p hq
  unfold cmdAt at e
  rw [if_neg (fun z => z hq), if_neg (by omega), if_neg (by omega), if_neg (by omega), if_pos ht] at e
  refine bx_of (P := pRC n t w y q m f) (by decide +kernel) (Nat.le_of_ble_eq_true rfl) ?_
  show Ex G 9 0 mX12_readCommand 0 [some (.ref 115), none, none, none, none] [] x _
  refine ex_s (fun _ => ev_aload_n dX12_readCommand_0 rfl) ?_
  refine ex_s (fun _ => ev_getI fX12_230 dX12_readCommand_1 (by decide) sh115 rfl) ?_
  refine ex_s (fun _ => ev_top h.2.1) ?_
  refine ex_s (fun _ => ev_if_eq_t (tgt := 8) dX12_readCommand_4 (by decide) rfl) ?_
  refine ex_s (fun _ => ev_aload_n dX12_readCommand_8 rfl) ?_
  refine ex_s (fun _ => ev_getI fX12_233 dX12_readCommand_9 (by decide) sh115 rfl) ?_
  refine ex_s (fun _ => ev_top h.1) ?_
  refine ex_s (fun _ => ev_aload_n dX12_readCommand_12 rfl) ?_
  refine ex_s (fun _ => ev_getI fX12_135 dX12_readCommand_13 (by decide) sh115 rfl) ?_
  refine ex_s (fun _ => ev_top hx.1) ?_
  refine ex_s (fun _ => ev_icmp_ge_f (tgt := 31) dX12_readCommand_16 (by decide) (nI_ge hq (by omega))) ?_
  refine ex_s (fun _ => ev_aload_n dX12_readCommand_19 rfl) ?_
  refine ex_s (fun _ => ev_getR fX12_33 dX12_readCommand_20 (by decide) sh115 rfl) ?_
  refine ex_s (fun _ => ev_aload_n dX12_readCommand_23 rfl) ?_
  refine ex_s (fun _ => ev_getI fX12_233 dX12_readCommand_24 (by decide) sh115 rfl) ?_
  refine ex_s (fun _ => ev_top h.1) ?_
  refine ex_s (fun _ => ev_caload dX12_readCommand_27 rfl (by omega) (by decide) sh123) ?_
  refine ex_s (fun _ => ev_top (hc.1.trans (by rw [ht]) : _ = nI 100)) ?_
  refine ex_s (fun _ => ev_goto (tgt := 32) dX12_readCommand_28 (by decide)) ?_
  refine ex_s (fun _ => ev_ist1 dX12_readCommand_32 (by decide) rfl) ?_
  refine ex_s (fun _ => ev_ldc_psm rfl dX12_readCommand_33) ?_
  refine ex_s (fun _ => ev_iload_n dX12_readCommand_35 rfl) ?_
  refine ex_s (fun _ => ev_callVs (i := 1) kX12_127 (by decide) rfl (qJ0_indexOf_1 (n := 100) (by omega)) dX12_readCommand_36 rfl (by decide) (by decide) rfl) ?_
  obtain ⟨k, hk, hk7⟩ := cI_y (c := 100) (by decide) (by decide)
  rw [hk]
  refine ex_s (fun _ => ev_if_ge_t (tgt := 48) dX12_readCommand_39 (by decide) (nI_le (Nat.zero_le k) (by omega))) ?_
  refine ex_s (fun _ => ev_aload_n dX12_readCommand_48 rfl) ?_
  refine ex_s (fun _ => ev_dup dX12_readCommand_49 rfl) ?_
  refine ex_s (fun _ => ev_getI fX12_233 dX12_readCommand_50 (by decide) sh115 rfl) ?_
  refine ex_s (fun _ => ev_top h.1) ?_
  refine ex_s (fun _ => ev_iconst dX12_readCommand_53 ic1) ?_
  refine ex_s (fun _ => ev_iadd dX12_readCommand_54) ?_
  first | refine ex_s (fun _ => ev_top (nI_add _ _)) ?_ | skip
  refine ex_s (fun _ => ev_put fX12_233 dX12_readCommand_55 rfl rfl (by decide) sh115 rfl) ?_
  refine ex_s (fun _ => ev_iconst dX12_readCommand_58 ic5) ?_
  refine ex_s (fun _ => ev_aload_n dX12_readCommand_59 rfl) ?_
  refine ex_s (fun _ => ev_getI fX12_254 dX12_readCommand_60 (by decide) sh115 rfl) ?_
  refine ex_s (fun _ => ev_top h.2.2.1) ?_
  refine ex_s (fun _ => ev_imul dX12_readCommand_63) ?_
  first | refine ex_s (fun _ => ev_top (pk_mul _ _)) ?_ | skip
  refine ex_s (fun _ => ev_ist2 dX12_readCommand_64 (by decide) rfl) ?_
  refine ex_s (fun _ => ev_aload_n dX12_readCommand_65 rfl) ?_
  refine ex_s (fun _ => ev_dup dX12_readCommand_66 rfl) ?_
  refine ex_s (fun _ => ev_getI fX12_254 dX12_readCommand_67 (by decide) sh115 rfl) ?_
  refine ex_s (fun _ => ev_top h.2.2.1) ?_
  refine ex_s (fun _ => ev_iconst dX12_readCommand_70 ic1) ?_
  refine ex_s (fun _ => ev_iadd dX12_readCommand_71) ?_
  first | refine ex_s (fun _ => ev_top (nI_add _ _)) ?_ | skip
  refine ex_s (fun _ => ev_put fX12_254 dX12_readCommand_72 rfl rfl (by decide) sh115 rfl) ?_
  refine ex_s (fun _ => ev_aload_n dX12_readCommand_75 rfl) ?_
  refine ex_s (fun _ => ev_getR fX12_40 dX12_readCommand_76 (by decide) sh115 rfl) ?_
  refine ex_s (fun _ => ev_iload_n dX12_readCommand_79 rfl) ?_
  refine ex_s (fun _ => ev_iload_n dX12_readCommand_80 rfl) ?_
  refine ex_s (fun _ => ev_iastore dX12_readCommand_81 rfl (by omega) rfl (by decide) sh124) ?_
  have h0 := RD_124 (RD_18 (RD_14 h (p + 1)) (m + 1)) (5 * m) (nI 100)
  refine ex_s (fun _ => ev_iload_n dX12_readCommand_82 rfl) ?_
  refine ex_s (fun _ => ev_lookup (tgt := 205) (off := 122) dX12_readCommand_83 (by decide) (by decide +kernel) (by decide)) ?_
  refine ex_s (fun _ => ev_aload_n dX12_readCommand_205 rfl) ?_
  refine ex_s (fun _ => ev_getR fX12_40 dX12_readCommand_206 (by decide) sh115 rfl) ?_
  refine ex_s (fun _ => ev_iload_n dX12_readCommand_209 rfl) ?_
  refine ex_s (fun _ => ev_iconst dX12_readCommand_210 ic1) ?_
  refine ex_s (fun _ => ev_iadd dX12_readCommand_211) ?_
  first | refine ex_s (fun _ => ev_top (nI_add _ _)) ?_ | skip
  refine ex_s (fun _ => ev_aload_n dX12_readCommand_212 rfl) ?_
  obtain ⟨_, x1, ⟨rfl, h1⟩, hB1⟩ := qX12_number (G := G) hi h0 (Nat.zero_le _) hq
  have k1 := nu_ok (n := n) (t := t) (s := (0, p + 1)) hq
  refine ex_s (fun _ => ev_callV kX12_244 co115 hB1 dX12_readCommand_213 rfl (by decide) (by decide) rfl) ?_
  refine ex_s (fun _ => ev_iastore dX12_readCommand_216 rfl (by omega) rfl (by decide) sh124) ?_
  have h1b := RD_124 h1 (5 * m + 1) (nI (nv n t (0, p + 1)))
  refine ex_s (fun _ => ev_aload_n dX12_readCommand_217 rfl) ?_
  refine ex_s (fun _ => ev_bipush (v := nI 47) dX12_readCommand_218 (by decide)) ?_
  refine ex_s (fun _ => ev_bipush (v := nI 47) dX12_readCommand_220 (by decide)) ?_
  obtain ⟨_, x2, ⟨rfl, h2⟩, hB2⟩ := qX12_sign (G := G) hi h1b k1.1 k1.2 (a := 47) (b := 47) (by decide) (by decide)
  have k2 := sg_ok (t := t) (a := 47) (b := 47) k1.2
  refine ex_s (fun _ => ev_callV kX12_240 co115 hB2 dX12_readCommand_222 rfl (by decide) (by decide) rfl) ?_
  refine ex_s (fun _ => ev_ist3 dX12_readCommand_225 (by decide) rfl) ?_
  refine ex_s (fun _ => ev_aload_n dX12_readCommand_226 rfl) ?_
  refine ex_s (fun _ => ev_getR fX12_40 dX12_readCommand_227 (by decide) sh115 rfl) ?_
  refine ex_s (fun _ => ev_iload_n dX12_readCommand_230 rfl) ?_
  refine ex_s (fun _ => ev_iconst dX12_readCommand_231 ic2) ?_
  refine ex_s (fun _ => ev_iadd dX12_readCommand_232) ?_
  first | refine ex_s (fun _ => ev_top (nI_add _ _)) ?_ | skip
  refine ex_s (fun _ => ev_aload_n dX12_readCommand_233 rfl) ?_
  obtain ⟨_, x3, ⟨rfl, h3⟩, hB3⟩ := qX12_number (G := G) hi h2 k2.1 k2.2
  refine ex_s (fun _ => ev_callV kX12_244 co115 hB3 dX12_readCommand_234 rfl (by decide) (by decide) rfl) ?_
  refine ex_s (fun _ => ev_iastore dX12_readCommand_237 rfl (by omega) rfl (by decide) sh124) ?_
  refine ex_s (fun _ => ev_goto (tgt := 257) dX12_readCommand_238 (by decide)) ?_
  exact ⟨_, _, (by exact ⟨rfl, _, _, (by rw [← (dr_c e).1]; exact RD_124 h3 (5 * m + 2) _), fun c hc => ⟨rfl, fun i hl => by rw [pk_un (by omega), pk_un (by omega), pk_un (by omega)], by rw [(dr_c e).2 c hc]; exact u3⟩⟩), ev_vret dX12_readCommand_257 rfl rfl rfl⟩
set_option maxRecDepth 4000 in
theorem qX12_rc_114 {G : GX} {w x : WS} {n : Nat} {t : Nat → Nat} (hi : inM n t w) {p m : Nat} {f : Nat → Int32} (h : RD w (0, p) m f x) (hp : p ≤ n) {y : Option Cmd} {q : Nat} (e : cmdAt n t p = (y, q)) (hq : p < n) (ht : t p = 114) (hm : m ≤ p) : ∃ o w2, (pRC n t w y q m f o w2) ∧ Big G 9 0 mX12_readCommand [.ref 115] x o w2 := by
  have hx := RD_in hi h
  have hn6 := hi.2.1
  have hc := hx.2.2 p hq
  unfold cmdAt at e
  rw [if_neg (fun z => z hq), if_neg (by omega), if_neg (by omega), if_pos ht] at e
  refine bx_of (P := pRC n t w y q m f) (by decide +kernel) (Nat.le_of_ble_eq_true rfl) ?_
  show Ex G 9 0 mX12_readCommand 0 [some (.ref 115), none, none, none, none] [] x _
  refine ex_s (fun _ => ev_aload_n dX12_readCommand_0 rfl) ?_
  refine ex_s (fun _ => ev_getI fX12_230 dX12_readCommand_1 (by decide) sh115 rfl) ?_
  refine ex_s (fun _ => ev_top h.2.1) ?_
  refine ex_s (fun _ => ev_if_eq_t (tgt := 8) dX12_readCommand_4 (by decide) rfl) ?_
  refine ex_s (fun _ => ev_aload_n dX12_readCommand_8 rfl) ?_
  refine ex_s (fun _ => ev_getI fX12_233 dX12_readCommand_9 (by decide) sh115 rfl) ?_
  refine ex_s (fun _ => ev_top h.1) ?_
  refine ex_s (fun _ => ev_aload_n dX12_readCommand_12 rfl) ?_
  refine ex_s (fun _ => ev_getI fX12_135 dX12_readCommand_13 (by decide) sh115 rfl) ?_
  refine ex_s (fun _ => ev_top hx.1) ?_
  refine ex_s (fun _ => ev_icmp_ge_f (tgt := 31) dX12_readCommand_16 (by decide) (nI_ge hq (by omega))) ?_
  refine ex_s (fun _ => ev_aload_n dX12_readCommand_19 rfl) ?_
  refine ex_s (fun _ => ev_getR fX12_33 dX12_readCommand_20 (by decide) sh115 rfl) ?_
  refine ex_s (fun _ => ev_aload_n dX12_readCommand_23 rfl) ?_
  refine ex_s (fun _ => ev_getI fX12_233 dX12_readCommand_24 (by decide) sh115 rfl) ?_
  refine ex_s (fun _ => ev_top h.1) ?_
  refine ex_s (fun _ => ev_caload dX12_readCommand_27 rfl (by omega) (by decide) sh123) ?_
  refine ex_s (fun _ => ev_top (hc.1.trans (by rw [ht]) : _ = nI 114)) ?_
  refine ex_s (fun _ => ev_goto (tgt := 32) dX12_readCommand_28 (by decide)) ?_
  refine ex_s (fun _ => ev_ist1 dX12_readCommand_32 (by decide) rfl) ?_
  refine ex_s (fun _ => ev_ldc_psm rfl dX12_readCommand_33) ?_
  refine ex_s (fun _ => ev_iload_n dX12_readCommand_35 rfl) ?_
  refine ex_s (fun _ => ev_callVs (i := 1) kX12_127 (by decide) rfl (qJ0_indexOf_1 (n := 114) (by omega)) dX12_readCommand_36 rfl (by decide) (by decide) rfl) ?_
  obtain ⟨k, hk, hk7⟩ := cI_y (c := 114) (by decide) (by decide)
  rw [hk]
  refine ex_s (fun _ => ev_if_ge_t (tgt := 48) dX12_readCommand_39 (by decide) (nI_le (Nat.zero_le k) (by omega))) ?_
  refine ex_s (fun _ => ev_aload_n dX12_readCommand_48 rfl) ?_
  refine ex_s (fun _ => ev_dup dX12_readCommand_49 rfl) ?_
  refine ex_s (fun _ => ev_getI fX12_233 dX12_readCommand_50 (by decide) sh115 rfl) ?_
  refine ex_s (fun _ => ev_top h.1) ?_
  refine ex_s (fun _ => ev_iconst dX12_readCommand_53 ic1) ?_
  refine ex_s (fun _ => ev_iadd dX12_readCommand_54) ?_
  first | refine ex_s (fun _ => ev_top (nI_add _ _)) ?_ | skip
  refine ex_s (fun _ => ev_put fX12_233 dX12_readCommand_55 rfl rfl (by decide) sh115 rfl) ?_
  refine ex_s (fun _ => ev_iconst dX12_readCommand_58 ic5) ?_
  refine ex_s (fun _ => ev_aload_n dX12_readCommand_59 rfl) ?_
  refine ex_s (fun _ => ev_getI fX12_254 dX12_readCommand_60 (by decide) sh115 rfl) ?_
  refine ex_s (fun _ => ev_top h.2.2.1) ?_
  refine ex_s (fun _ => ev_imul dX12_readCommand_63) ?_
  first | refine ex_s (fun _ => ev_top (pk_mul _ _)) ?_ | skip
  refine ex_s (fun _ => ev_ist2 dX12_readCommand_64 (by decide) rfl) ?_
  refine ex_s (fun _ => ev_aload_n dX12_readCommand_65 rfl) ?_
  refine ex_s (fun _ => ev_dup dX12_readCommand_66 rfl) ?_
  refine ex_s (fun _ => ev_getI fX12_254 dX12_readCommand_67 (by decide) sh115 rfl) ?_
  refine ex_s (fun _ => ev_top h.2.2.1) ?_
  refine ex_s (fun _ => ev_iconst dX12_readCommand_70 ic1) ?_
  refine ex_s (fun _ => ev_iadd dX12_readCommand_71) ?_
  first | refine ex_s (fun _ => ev_top (nI_add _ _)) ?_ | skip
  refine ex_s (fun _ => ev_put fX12_254 dX12_readCommand_72 rfl rfl (by decide) sh115 rfl) ?_
  refine ex_s (fun _ => ev_aload_n dX12_readCommand_75 rfl) ?_
  refine ex_s (fun _ => ev_getR fX12_40 dX12_readCommand_76 (by decide) sh115 rfl) ?_
  refine ex_s (fun _ => ev_iload_n dX12_readCommand_79 rfl) ?_
  refine ex_s (fun _ => ev_iload_n dX12_readCommand_80 rfl) ?_
  refine ex_s (fun _ => ev_iastore dX12_readCommand_81 rfl (by omega) rfl (by decide) sh124) ?_
  have h0 := RD_124 (RD_18 (RD_14 h (p + 1)) (m + 1)) (5 * m) (nI 114)
  refine ex_s (fun _ => ev_iload_n dX12_readCommand_82 rfl) ?_
  refine ex_s (fun _ => ev_lookup (tgt := 197) (off := 114) dX12_readCommand_83 (by decide) (by decide +kernel) (by decide)) ?_
  refine ex_s (fun _ => ev_aload_n dX12_readCommand_197 rfl) ?_
  refine ex_s (fun _ => ev_iload_n dX12_readCommand_198 rfl) ?_
  obtain ⟨_, x1, ⟨rfl, h1⟩, hB1⟩ := qX12_readRiver (G := G) hi h0 hq (j := 5 * m) (by omega)
  refine ex_s (fun _ => ev_callV kX12_257 co115 hB1 dX12_readCommand_199 rfl (by decide) (by decide) rfl) ?_
  refine ex_s (fun _ => ev_goto (tgt := 257) dX12_readCommand_202 (by decide)) ?_
  exact ⟨_, _, (by 
      refine ⟨rfl, _, _, (by rw [← (ri_c e).1]; exact h1), fun c hc => ⟨rfl, fun i hl => by unfold fRv; rw [pk_un (by omega), pk_un (by omega), pk_un (by omega), pk_un (by omega), pk_un (by omega)], ?_⟩⟩
      obtain ⟨j1, j2, rfl⟩ := (ri_c e).2 c hc
      have k1 := nu_ok (n := n) (t := t) (s := (0, p + 1)) hq
      have k2 : (r2 n t (p + 1)).2 ≤ n := (sg_ok (t := t) (a := 58) (b := 58) k1.2).2
      exact ⟨by unfold fRv; rw [pk_un (by omega), pk_un (by omega), pk_un (by omega), pk_un (by omega), u_sm], by unfold fRv; rw [pk_un (by omega), pk_un (by omega), pk_un (by omega), u_sm], by unfold fRv; rw [pk_un (by omega), u_sm], u_sm, (r2 n t (p + 1)).2, by unfold fRv; rw [pk_un (by omega), pk_un (by omega), u_sm], (rK_le k2).1, fun k hk => (stD_at (f := 12) (by rw [← j1]; exact hk)).1⟩), ev_vret dX12_readCommand_257 rfl rfl rfl⟩
theorem qX12_readCommand {G : GX} {w x : WS} {n : Nat} {t : Nat → Nat} (hi : inM n t w) {p m : Nat} {f : Nat → Int32} (h : RD w (0, p) m f x) (hp : p ≤ n) {y : Option Cmd} {q : Nat} (e : cmdAt n t p = (y, q)) (hm : m ≤ p) : ∃ o w2, pRC n t w y q m f o w2 ∧ Big G 9 0 mX12_readCommand [.ref 115] x o w2 := by
  by_cases hq : p < n
  · by_cases h1 : t p = 112
    · exact qX12_rc_112 hi h hp e hq h1 hm
    · by_cases h2 : t p = 115
      · exact qX12_rc_115 hi h hp e hq h2 hm
      · by_cases h3 : t p = 109
        · exact qX12_rc_109 hi h hp e hq h3 hm
        · by_cases h4 : t p = 114
          · exact qX12_rc_114 hi h hp e hq h4 hm
          · by_cases h5 : t p = 107
            · exact qX12_rc_107 hi h hp e hq h5 hm
            · by_cases h6 : t p = 100
              · exact qX12_rc_100 hi h hp e hq h6 hm
              · by_cases h7 : t p = 102
                · exact qX12_rc_102 hi h hp e hq h7 hm
                · exact qX12_rc_n hi h hp e hq h1 h2 h3 h4 h5 h6 h7
  · exact qX12_rc_0 hi h hp e hq
