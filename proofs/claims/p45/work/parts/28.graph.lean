/-! cells beside each other, parts -/
theorem nb_sym0 : ∀ x : Fin 64, ∀ d : Fin 4, (nb x.val d.val).all (fun y => (List.range 4).any (fun e => nb y e == some x.val)) = true := by decide +kernel
theorem nb_sym {x d y : Nat} (hx : x < 64) (hd : d < 4) (h : nb x d = some y) : ∃ e, e < 4 ∧ nb y e = some x := by
  have q := nb_sym0 ⟨x, hx⟩ ⟨d, hd⟩
  simp only [h, Option.all_some] at q
  obtain ⟨e, he, h2⟩ := List.any_eq_true.mp q
  exact ⟨e, List.mem_range.mp he, by simpa using h2⟩
theorem nb_es0 : ∀ x : Fin 64, ∀ d : Fin 4, (nb x.val d.val).all (fun y => nb x.val 1 == some y || nb x.val 2 == some y || nb y 1 == some x.val || nb y 2 == some x.val) = true := by decide +kernel
theorem nb_es {x d y : Nat} (hx : x < 64) (hd : d < 4) (h : nb x d = some y) : nb x 1 = some y ∨ nb x 2 = some y ∨ nb y 1 = some x ∨ nb y 2 = some x := by
  have q := nb_es0 ⟨x, hx⟩ ⟨d, hd⟩
  simp only [h, Option.all_some, Bool.or_eq_true, beq_iff_eq] at q
  rcases q with ((q | q) | q) | q
  · exact Or.inl q
  · exact Or.inr (Or.inl q)
  · exact Or.inr (Or.inr (Or.inl q))
  · exact Or.inr (Or.inr (Or.inr q))
/-- one step within a realm -/
def eg (S : ST) (x y : Nat) : Prop := x < 64 ∧ sO S x = sO S y ∧ ∃ d, d < 4 ∧ nb x d = some y
theorem eg_lt {S : ST} {x y : Nat} (h : eg S x y) : y < 64 := by
  obtain ⟨h1, -, d, -, h2⟩ := h
  exact nb_lt h1 h2
theorem eg_sym {S : ST} {x y : Nat} (h : eg S x y) : eg S y x := by
  obtain ⟨h1, h2, d, hd, h3⟩ := h
  obtain ⟨e, he, h4⟩ := nb_sym h1 hd h3
  exact ⟨nb_lt h1 h3, h2.symm, e, he, h4⟩
def rcN (S : ST) : Nat → Nat → Nat → Prop
  | 0, x, y => x = y
  | k + 1, x, y => ∃ z, rcN S k x z ∧ eg S z y
def rch (S : ST) (x y : Nat) : Prop := ∃ k, rcN S k x y
theorem rch_rf {S : ST} {x : Nat} : rch S x x := ⟨0, rfl⟩
theorem rch_st {S : ST} {x y z : Nat} (h : rch S x y) (e : eg S y z) : rch S x z := by
  obtain ⟨k, h⟩ := h
  exact ⟨k + 1, y, h, e⟩
theorem rch_in {S : ST} {x y : Nat} {P : Nat → Prop} (h : rch S x y) (h0 : P x) (hs : ∀ z u, rch S x z → P z → eg S z u → P u) : P y := by
  obtain ⟨k, h⟩ := h
  induction k generalizing y with
  | zero => have h : x = y := h; subst h; exact h0
  | succ k ih =>
    obtain ⟨z, h1, h2⟩ := h
    exact hs z y ⟨k, h1⟩ (ih h1) h2
theorem rch_tr {S : ST} {x y z : Nat} (h : rch S x y) (h2 : rch S y z) : rch S x z := rch_in h2 h (fun _ _ _ hp e => rch_st hp e)
theorem rch_sym {S : ST} {x y : Nat} (h : rch S x y) : rch S y x := rch_in (P := fun y => rch S y x) h rch_rf (fun _ _ _ hp e => rch_tr (rch_st rch_rf (eg_sym e)) hp)
theorem rch_o {S : ST} {x y : Nat} (h : rch S x y) : sO S x = sO S y := rch_in (P := fun y => sO S x = sO S y) h rfl (fun _ _ _ hp e => hp.trans e.2.1)
theorem rch_lt {S : ST} {x y : Nat} (h : rch S x y) (hx : x < 64) : y < 64 := rch_in (P := fun y => y < 64) h hx (fun _ _ _ _ e => eg_lt e)
/-- the first cell of its part -/
def mr (S : ST) (r : Int32) (c : Nat) : Prop := sO S c = r ∧ ∀ c', c' < c → ¬ rch S c' c
noncomputable def mrb (S : ST) (r : Int32) (c : Nat) : Bool := @decide (mr S r c) (Classical.propDecidable _)
theorem mrb_t {S : ST} {r : Int32} {c : Nat} (h : mr S r c) : mrb S r c = true := by
  unfold mrb
  exact @decide_eq_true _ (Classical.propDecidable _) h
theorem mrb_f {S : ST} {r : Int32} {c : Nat} (h : ¬ mr S r c) : mrb S r c = false := by
  unfold mrb
  exact @decide_eq_false _ (Classical.propDecidable _) h
/-- how many parts a realm has -/
noncomputable def ccS (S : ST) (r : Int32) : Nat := ct (mrb S r) 64
/-! counting marks -/
theorem ct_all {p : Nat → Bool} {n : Nat} (h : n ≤ ct p n) : ∀ x, x < n → p x = true := by
  induction n with
  | zero => intro x hx; exact absurd hx (Nat.not_lt_zero _)
  | succ n ih =>
    intro x hx
    have h1 := ct_le p n
    rw [ct_s] at h
    cases e : p n with
    | false => rw [e] at h; simp at h; omega
    | true =>
      rw [e] at h
      simp at h
      by_cases q : x = n
      · rw [q]; exact e
      · exact ih (by omega) x (by omega)
theorem ct_one {p q : Nat → Bool} {n y : Nat} (hy : y < n) (hp : p y = false) (hq : q y = true) (ho : ∀ x, x ≠ y → q x = p x) : ct q n = ct p n + 1 := by
  induction n with
  | zero => exact absurd hy (Nat.not_lt_zero _)
  | succ n ih =>
    rw [ct_s, ct_s]
    by_cases e : y = n
    · subst e
      rw [hp, hq, ct_congr (p := q) (q := p) (n := y) (fun i hi => ho i (by omega))]
      simp
    · rw [ih (by omega), ho n (fun q => e q.symm)]
      omega
/-- a set of cells is closed -/
def clo (S : ST) (B : Nat → Prop) : Prop := ∀ x y, B x → eg S x y → B y
theorem clo_r {S : ST} {B : Nat → Prop} (h : clo S B) {x y : Nat} (hx : B x) (hr : rch S x y) : B y := rch_in (P := B) hr hx (fun z u _ hz e => h z u hz e)
/-- the cells of the parts that the first k cells lie in -/
def vis (S : ST) (r : Int32) (k : Nat) (x : Nat) : Prop := ∃ c, c < k ∧ sO S c = r ∧ rch S c x
theorem vis_clo {S : ST} {r : Int32} {k : Nat} : clo S (vis S r k) := by
  rintro x y ⟨c, h1, h2, h3⟩ e
  exact ⟨c, h1, h2, rch_st h3 e⟩
theorem vis_new {S : ST} {r : Int32} {k : Nat} (ho : sO S k = r) (hv : ¬ vis S r k k) : mr S r k := by
  refine ⟨ho, fun c hc hr => hv ⟨c, hc, ?_, hr⟩⟩
  rw [rch_o hr, ho]
theorem vis_old {S : ST} {r : Int32} {k : Nat} (hv : vis S r k k) : ¬ mr S r k := by
  obtain ⟨c, h1, h2, h3⟩ := hv
  exact fun q => q.2 c h1 h3
theorem vis_s1 {S : ST} {r : Int32} {k x : Nat} (ho : sO S k = r) : vis S r (k + 1) x ↔ vis S r k x ∨ rch S k x := by
  constructor
  · rintro ⟨c, h1, h2, h3⟩
    by_cases e : c = k
    · subst e; exact Or.inr h3
    · exact Or.inl ⟨c, by omega, h2, h3⟩
  · rintro (⟨c, h1, h2, h3⟩ | h)
    · exact ⟨c, by omega, h2, h3⟩
    · exact ⟨k, by omega, ho, h⟩
theorem vis_s2 {S : ST} {r : Int32} {k x : Nat} (h : sO S k ≠ r ∨ vis S r k k) : vis S r (k + 1) x ↔ vis S r k x := by
  constructor
  · rintro ⟨c, h1, h2, h3⟩
    by_cases e : c = k
    · subst e
      rcases h with h | h
      · exact absurd h2 h
      · obtain ⟨c', g1, g2, g3⟩ := h
        exact ⟨c', g1, g2, rch_tr g3 h3⟩
    · exact ⟨c, by omega, h2, h3⟩
  · rintro ⟨c, h1, h2, h3⟩
    exact ⟨c, by omega, h2, h3⟩
theorem vis_ct1 {S : ST} {r : Int32} {k : Nat} (ho : sO S k = r) (hv : ¬ vis S r k k) : ct (mrb S r) (k + 1) = ct (mrb S r) k + 1 := ct_t (mrb_t (vis_new ho hv))
theorem vis_ct2 {S : ST} {r : Int32} {k : Nat} (h : sO S k ≠ r ∨ vis S r k k) : ct (mrb S r) (k + 1) = ct (mrb S r) k := by
  refine ct_f (mrb_f ?_)
  rcases h with h | h
  · exact fun q => h q.1
  · exact vis_old h
/-! going along a row of cells that were reached -/
def nzb (m : Nat → Int32) (x : Nat) : Bool := !(m x == 0)
theorem nzb_t {m : Nat → Int32} {x : Nat} : nzb m x = true ↔ m x ≠ 0 := by
  unfold nzb
  simp
theorem nzb_f {m : Nat → Int32} {x : Nat} : nzb m x = false ↔ m x = 0 := by
  unfold nzb
  simp
/-- B before; f reached, of them q done; the marks m, the row R -/
def gI (S : ST) (c : Nat) (B : Nat → Prop) (q f : Nat) (m : Nat → Int32) (R : Nat → Nat) : Prop :=
  (∀ i, i < f → R i < 64 ∧ rch S c (R i)) ∧ (∀ x, x < 64 → (m x ≠ 0 ↔ B x ∨ ∃ i, i < f ∧ R i = x)) ∧ (f ≤ 64 ∧ f ≤ ct (nzb m) 64) ∧ (∀ i, i < q → ∀ y, eg S (R i) y → m y ≠ 0) ∧ (0 < f ∧ R 0 = c)
theorem gI_0 {S : ST} {c : Nat} {B : Nat → Prop} {m : Nat → Int32} {R : Nat → Nat} (hc : c < 64) (hm : ∀ x, x < 64 → (m x ≠ 0 ↔ B x)) (h0 : m c = 0) : gI S c B 0 1 (upd m c 1) (va_up R 0 c) := by
  refine ⟨fun i hi => ?_, fun x hx => ?_, ⟨by decide, ?_⟩, fun i hi => absurd hi (Nat.not_lt_zero _), by decide, rfl⟩
  · obtain rfl : i = 0 := by omega
    exact ⟨hc, rch_rf⟩
  · by_cases e : x = c
    · subst e
      unfold upd
      rw [if_pos rfl]
      exact ⟨fun _ => Or.inr ⟨0, by decide, rfl⟩, fun _ => by decide⟩
    · unfold upd
      rw [if_neg e, hm x hx]
      refine ⟨Or.inl, fun h => h.elim id ?_⟩
      rintro ⟨i, hi, h⟩
      obtain rfl : i = 0 := by omega
      exact absurd h.symm e
  · rw [ct_one (p := nzb m) (q := nzb (upd m c 1)) hc (nzb_f.mpr h0) (nzb_t.mpr (by rw [show upd m c 1 c = 1 by unfold upd; rw [if_pos rfl]]; decide)) (fun x hx => by unfold nzb upd; rw [if_neg hx])]
    omega
theorem gI_lt {S : ST} {c q f : Nat} {B : Nat → Prop} {m : Nat → Int32} {R : Nat → Nat} (h : gI S c B q f m R) {y : Nat} (hy : y < 64) (h0 : m y = 0) : f < 64 := by
  obtain ⟨-, -, ⟨h1, h2⟩, -⟩ := h
  rcases Nat.lt_or_ge f 64 with e | e
  · exact e
  · exact absurd h0 (nzb_t.mp (ct_all (by omega) y hy))
theorem gI_add {S : ST} {c q f : Nat} {B : Nat → Prop} {m : Nat → Int32} {R : Nat → Nat} (h : gI S c B q f m R) {i y : Nat} (hi : i < f) (he : eg S (R i) y) (h0 : m y = 0) (hq : q ≤ f) : gI S c B q (f + 1) (upd m y 1) (va_up R f y) := by
  have hy := eg_lt he
  have hf := gI_lt h hy h0
  obtain ⟨h1, h2, h3, h4, h5, h6⟩ := h
  refine ⟨fun j hj => ?_, fun x hx => ?_, ⟨by omega, ?_⟩, fun j hj z hz => ?_, by omega, ?_⟩
  · unfold va_up
    by_cases e : j = f
    · rw [if_pos e]; exact ⟨hy, rch_st (h1 i hi).2 he⟩
    · rw [if_neg e]; exact h1 j (by omega)
  · unfold upd
    by_cases e : x = y
    · subst e
      rw [if_pos rfl]
      exact ⟨fun _ => Or.inr ⟨f, by omega, by unfold va_up; rw [if_pos rfl]⟩, fun _ => by decide⟩
    · rw [if_neg e, h2 x hx]
      refine or_congr Iff.rfl ⟨?_, ?_⟩
      · rintro ⟨j, g1, g2⟩
        exact ⟨j, by omega, by unfold va_up; rw [if_neg (by omega)]; exact g2⟩
      · rintro ⟨j, g1, g2⟩
        unfold va_up at g2
        by_cases e2 : j = f
        · rw [if_pos e2] at g2; exact absurd g2.symm e
        · rw [if_neg e2] at g2; exact ⟨j, by omega, g2⟩
  · rw [ct_one (p := nzb m) (q := nzb (upd m y 1)) hy (nzb_f.mpr h0) (nzb_t.mpr (by rw [show upd m y 1 y = 1 by unfold upd; rw [if_pos rfl]]; decide)) (fun x hx => by unfold nzb upd; rw [if_neg hx])]
    omega
  · unfold va_up at hz
    rw [if_neg (by omega)] at hz
    have := h4 j hj z hz
    unfold upd
    split
    · decide
    · exact this
  · unfold va_up
    rw [if_neg (by omega)]
    exact h6
theorem gI_q {S : ST} {c q f : Nat} {B : Nat → Prop} {m : Nat → Int32} {R : Nat → Nat} (h : gI S c B q f m R) (hn : ∀ y, eg S (R q) y → m y ≠ 0) : gI S c B (q + 1) f m R := by
  obtain ⟨h1, h2, h3, h4, h5⟩ := h
  refine ⟨h1, h2, h3, fun i hi y hy => ?_, h5⟩
  by_cases e : i = q
  · subst e; exact hn y hy
  · exact h4 i (by omega) y hy
theorem gI_end {S : ST} {c f : Nat} {B : Nat → Prop} {m : Nat → Int32} {R : Nat → Nat} (h : gI S c B f f m R) (hB : clo S B) : ∀ x, x < 64 → (m x ≠ 0 ↔ B x ∨ rch S c x) := by
  obtain ⟨h1, h2, h3, h4, h5, h6⟩ := h
  intro x hx
  constructor
  · intro hm
    rcases (h2 x hx).mp hm with q | ⟨i, hi, q⟩
    · exact Or.inl q
    · exact Or.inr (by rw [← q]; exact (h1 i hi).2)
  · rintro (q | q)
    · exact (h2 x hx).mpr (Or.inl q)
    · have hc : c < 64 := by rw [← h6]; exact (h1 0 h5).1
      refine (rch_in (P := fun x => x < 64 ∧ m x ≠ 0) q ⟨hc, (h2 c hc).mpr (Or.inr ⟨0, h5, h6⟩)⟩ (fun z u _ hz e => ⟨eg_lt e, ?_⟩)).2
      rcases (h2 z hz.1).mp hz.2 with g | ⟨i, hi, g⟩
      · exact (h2 u (eg_lt e)).mpr (Or.inl (hB z u g e))
      · exact h4 i hi u (by rw [g]; exact e)
/-! joining -/
/-- the head of a cell by marks that go down -/
def hdN (m : Nat → Nat) : Nat → Nat → Nat
  | 0, x => x
  | f + 1, x => if m x = x then x else hdN m f (m x)
theorem hdN_le {m : Nat → Nat} (hm : ∀ x, m x ≤ x) {f : Nat} : ∀ {x : Nat}, hdN m f x ≤ x := by
  induction f with
  | zero => intro x; exact Nat.le_refl _
  | succ f ih =>
    intro x
    unfold hdN
    split
    · exact Nat.le_refl _
    · exact Nat.le_trans ih (hm x)
theorem hdN_en {m : Nat → Nat} (hm : ∀ x, m x ≤ x) {f : Nat} : ∀ {x : Nat}, x ≤ f → m (hdN m f x) = hdN m f x := by
  induction f with
  | zero =>
    intro x hx
    have := hm 0
    obtain rfl : x = 0 := by omega
    show m 0 = 0
    omega
  | succ f ih =>
    intro x hx
    unfold hdN
    split
    · assumption
    · have := hm x
      exact ih (by omega)
theorem hdN_st {m : Nat → Nat} (hm : ∀ x, m x ≤ x) {f g : Nat} : ∀ {x : Nat}, x ≤ f → x ≤ g → hdN m f x = hdN m g x := by
  induction f generalizing g with
  | zero =>
    intro x hx hg
    have := hm 0
    obtain rfl : x = 0 := by omega
    cases g with
    | zero => rfl
    | succ g =>
      unfold hdN
      rw [if_pos (by omega)]
  | succ f ih =>
    intro x hx hg
    cases g with
    | zero =>
      have := hm 0
      obtain rfl : x = 0 := by omega
      unfold hdN
      rw [if_pos (by omega)]
    | succ g =>
      unfold hdN
      split
      · rfl
      · have := hm x
        exact ih (by omega) (by omega)
abbrev hd_ (m : Nat → Nat) (x : Nat) : Nat := hdN m x x
theorem hd_le {m : Nat → Nat} (hm : ∀ x, m x ≤ x) {x : Nat} : hd_ m x ≤ x := hdN_le hm
theorem hd_en {m : Nat → Nat} (hm : ∀ x, m x ≤ x) {x : Nat} : m (hd_ m x) = hd_ m x := hdN_en hm (Nat.le_refl _)
theorem hd_s {m : Nat → Nat} (hm : ∀ x, m x ≤ x) {x : Nat} (h : m x ≠ x) : hd_ m x = hd_ m (m x) := by
  have := hm x
  obtain ⟨k, rfl⟩ : ∃ k, x = k + 1 := ⟨x - 1, by omega⟩
  show hdN m (k + 1) (k + 1) = _
  rw [hdN, if_neg h]
  exact hdN_st hm (by omega) (Nat.le_refl _)
theorem hd_r {m : Nat → Nat} {x : Nat} (h : m x = x) : hd_ m x = x := by
  cases x with
  | zero => rfl
  | succ k => show hdN m (k + 1) (k + 1) = _; rw [hdN, if_pos h]
/-- a head a gets the head b below it -/
theorem hd_up {m : Nat → Nat} (hm : ∀ x, m x ≤ x) {a b : Nat} (ha : m a = a) (hb : m b = b) (hl : b < a) (x : Nat) : hd_ (va_up m a b) x = if hd_ m x = a then b else hd_ m x := by
  have hm2 : ∀ x, va_up m a b x ≤ x := fun x => by
    unfold va_up
    split
    · omega
    · exact hm x
  induction x using Nat.strongRecOn with
  | _ x ih =>
    by_cases e : x = a
    · subst e
      rw [hd_r ha, if_pos rfl, hd_s hm2 (by unfold va_up; rw [if_pos rfl]; omega), show va_up m x b x = b by unfold va_up; rw [if_pos rfl]]
      exact hd_r (by unfold va_up; rw [if_neg (by omega)]; exact hb)
    · have ev : va_up m a b x = m x := by unfold va_up; rw [if_neg e]
      by_cases e2 : m x = x
      · rw [hd_r e2, if_neg e]
        exact hd_r (ev.trans e2)
      · have h1 := hm x
        rw [hd_s hm e2, hd_s hm2 (by rw [ev]; exact e2), ev]
        exact ih (m x) (by omega)
/-- marks that join: k cells done, n the count -/
def uI (S : ST) (r : Int32) (m : Nat → Nat) (n : Nat) : Prop :=
  (∀ x, m x ≤ x) ∧ (∀ x, x < 64 → rch S x (m x)) ∧ n = ct (fun x => decide (sO S x = r ∧ m x = x)) 64
theorem uI_h {S : ST} {r : Int32} {m : Nat → Nat} {n : Nat} (h : uI S r m n) {x : Nat} (hx : x < 64) : rch S x (hd_ m x) := by
  obtain ⟨h1, h2, h3⟩ := h
  induction x using Nat.strongRecOn with
  | _ x ih =>
    by_cases e : m x = x
    · rw [hd_r e]; exact rch_rf
    · have := h1 x
      rw [hd_s h1 e]
      exact rch_tr (h2 x hx) (ih (m x) (by omega) (by omega))
theorem uI_j {S : ST} {r : Int32} {m : Nat → Nat} {n : Nat} (h : uI S r m n) {x y : Nat} (hx : x < 64) (ho : sO S x = r) (he : eg S x y) (hne : hd_ m x ≠ hd_ m y) : uI S r (va_up m (max (hd_ m x) (hd_ m y)) (min (hd_ m x) (hd_ m y))) (n - 1) ∧ 0 < n := by
  have hhx := uI_h h hx
  have hhy := uI_h h (eg_lt he)
  have h0 := h
  obtain ⟨h1, h2, h3⟩ := h
  have ex := hd_en h1 (x := x)
  have ey := hd_en h1 (x := y)
  have lx := hd_le h1 (x := x)
  have ly := hd_le h1 (x := y)
  have hy := eg_lt he
  obtain ⟨a, ha⟩ : ∃ a, a = max (hd_ m x) (hd_ m y) := ⟨_, rfl⟩
  obtain ⟨b, hb⟩ : ∃ b, b = min (hd_ m x) (hd_ m y) := ⟨_, rfl⟩
  have hab : (a = hd_ m x ∧ b = hd_ m y ∧ b < a) ∨ (a = hd_ m y ∧ b = hd_ m x ∧ b < a) := by omega
  have rab : rch S a b := by
    rcases hab with ⟨q1, q2, -⟩ | ⟨q1, q2, -⟩
    · rw [q1, q2]; exact rch_tr (rch_sym hhx) (rch_tr (rch_st rch_rf he) hhy)
    · rw [q1, q2]; exact rch_sym (rch_tr (rch_sym hhx) (rch_tr (rch_st rch_rf he) hhy))
  have hra : m a = a := by rcases hab with ⟨q1, -⟩ | ⟨q1, -⟩ <;> rw [q1] <;> assumption
  have hlt : b < a := by omega
  have ha64 : a < 64 := by omega
  have hoa : sO S a = r := by
    rcases hab with ⟨q1, -⟩ | ⟨q1, -⟩
    · rw [q1, ← rch_o hhx]; exact ho
    · rw [q1, ← rch_o hhy, ← he.2.1]; exact ho
  rw [← ha, ← hb]
  have hc := ct_one (p := fun z => decide (sO S z = r ∧ va_up m a b z = z)) (q := fun z => decide (sO S z = r ∧ m z = z)) ha64 (decide_eq_false (fun q => by
    have := q.2
    unfold va_up at this
    rw [if_pos rfl] at this
    omega)) (decide_eq_true ⟨hoa, hra⟩) (fun z hz => by unfold va_up; rw [if_neg hz])
  refine ⟨⟨fun z => ?_, fun z hz => ?_, ?_⟩, by omega⟩
  · unfold va_up
    split
    · omega
    · exact h1 z
  · unfold va_up
    split
    · rename_i q; rw [q]; exact rab
    · exact h2 z hz
  · omega
/-- edges done stay done -/
theorem uI_k {m : Nat → Nat} (hm : ∀ x, m x ≤ x) {a b x y : Nat} (ha : m a = a) (hb : m b = b) (hl : b < a) (h : hd_ m x = hd_ m y) : hd_ (va_up m a b) x = hd_ (va_up m a b) y := by
  rw [hd_up hm ha hb hl, hd_up hm ha hb hl, h]
theorem uI_d {m : Nat → Nat} (hm : ∀ x, m x ≤ x) {x y : Nat} (hne : hd_ m x ≠ hd_ m y) : hd_ (va_up m (max (hd_ m x) (hd_ m y)) (min (hd_ m x) (hd_ m y))) x = hd_ (va_up m (max (hd_ m x) (hd_ m y)) (min (hd_ m x) (hd_ m y))) y := by
  have ex := hd_en hm (x := x)
  have ey := hd_en hm (x := y)
  rcases Nat.lt_or_ge (hd_ m x) (hd_ m y) with h | h
  · rw [show max (hd_ m x) (hd_ m y) = hd_ m y by omega, show min (hd_ m x) (hd_ m y) = hd_ m x by omega, hd_up hm ey ex h, hd_up hm ey ex h, if_neg hne, if_pos rfl]
  · have h2 : hd_ m y < hd_ m x := by omega
    rw [show max (hd_ m x) (hd_ m y) = hd_ m x by omega, show min (hd_ m x) (hd_ m y) = hd_ m y by omega, hd_up hm ex ey h2, hd_up hm ex ey h2, if_pos rfl, if_neg (fun q => hne q.symm)]
/-- all sides done: the heads are the first cells of their parts -/
theorem uI_end {S : ST} {r : Int32} {m : Nat → Nat} {n : Nat} (h : uI S r m n) (hd : ∀ x y, x < 64 → sO S x = r → sO S y = r → (nb x 1 = some y ∨ nb x 2 = some y) → hd_ m x = hd_ m y) : n = ccS S r := by
  have hh := fun x (hx : x < 64) => uI_h h hx
  obtain ⟨h1, h2, h3⟩ := h
  have he : ∀ x y, sO S x = r → eg S x y → hd_ m x = hd_ m y := by
    rintro x y hx ⟨g1, g2, d, g3, g4⟩
    have hy := nb_lt g1 g4
    rcases nb_es g1 g3 g4 with q | q | q | q
    · exact hd x y g1 hx (by rw [← g2]; exact hx) (Or.inl q)
    · exact hd x y g1 hx (by rw [← g2]; exact hx) (Or.inr q)
    · exact (hd y x hy (by rw [← g2]; exact hx) hx (Or.inl q)).symm
    · exact (hd y x hy (by rw [← g2]; exact hx) hx (Or.inr q)).symm
  have hr : ∀ x y, sO S x = r → rch S x y → hd_ m x = hd_ m y := by
    intro x y hx hxy
    exact rch_in (P := fun y => hd_ m x = hd_ m y) hxy rfl (fun z u hz hp e => hp.trans (he z u (by rw [← rch_o hz]; exact hx) e))
  rw [h3]
  refine ct_congr (fun x hx => ?_)
  by_cases q : mr S r x
  · rw [mrb_t q]
    refine decide_eq_true ⟨q.1, ?_⟩
    rcases Nat.lt_or_ge (m x) x with g | g
    · exact absurd (rch_sym (h2 x hx)) (q.2 (m x) g)
    · have := h1 x; omega
  · rw [mrb_f q]
    refine decide_eq_false (fun g => q ⟨g.1, fun c hc hcr => ?_⟩)
    have e1 := hr c x (by rw [rch_o hcr]; exact g.1) hcr
    rw [hd_r g.2] at e1
    have := hd_le h1 (x := c)
    omega
