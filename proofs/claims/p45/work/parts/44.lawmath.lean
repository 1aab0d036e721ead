/-! the law's mathematics: neighbours, ranks -/
theorem sm_one {f : Nat → Nat} {a n : Nat} (ha : a < n) (h : ∀ o, o < n → o ≠ a → f o = 0) : sm f n = f a := by
  induction n with
  | zero => exact absurd ha (Nat.not_lt_zero _)
  | succ n ih =>
    rw [sm_s]
    by_cases e : a = n
    · subst e
      rw [sm_0 (fun i hi => h i (by omega) (by omega)), Nat.zero_add]
    · rw [ih (by omega) (fun o ho => h o (by omega)), h n (by omega) (fun q => e q.symm)]
      rfl
theorem ct_sm (p : Nat → Bool) (n : Nat) : ct p n = sm (fun o => if p o = true then 1 else 0) n := by
  rw [sm_ct, Nat.one_mul]
/-- the first n cells that lie beside k and are v's -/
def nbK (S : ST) (k : Nat) (v : Int32) (n : Nat) : Nat := ct (fun o => bsd k o && sO S o == v) n
theorem nbK_s (S : ST) (k : Nat) (v : Int32) (n : Nat) : nbK S k v (n + 1) = nbK S k v n + if (bsd k n && sO S n == v) = true then 1 else 0 := ct_s _ _
theorem bsd_i : ∀ k o : Fin 64, (if bsd k.val o.val = true then (1 : Nat) else 0) = (if nb k.val 0 = some o.val then 1 else 0) + (if nb k.val 1 = some o.val then 1 else 0) + (if nb k.val 2 = some o.val then 1 else 0) + (if nb k.val 3 = some o.val then 1 else 0) := by decide +kernel
theorem nb_sm {S : ST} {k : Nat} (hk : k < 64) {r v : Int32} (ho : sO S k = r) (hv : v ≠ -1) (d : Nat) : sm (fun o => if nb k d = some o ∧ sO S o = v then 1 else 0) 64 = eW S r v d k := by
  cases e : nb k d with
  | none =>
    rw [eW_0 hv e]
    exact sm_0 (fun i _ => if_neg (fun z => by simp at z))
  | some j =>
    have hj := nb_lt hk e
    rw [sm_one (a := j) hj (fun o _ hne => if_neg (fun z => hne (Option.some.inj z.1).symm))]
    unfold eW
    rw [e]
    show (if some j = some j ∧ sO S j = v then 1 else 0) = if sO S k = r ∧ sO S j = v then 1 else 0
    by_cases q : sO S j = v
    · rw [if_pos ⟨rfl, q⟩, if_pos ⟨ho, q⟩]
    · rw [if_neg (fun z => q z.2), if_neg (fun z => q z.2)]
theorem nbk_eW {S : ST} {k : Nat} (hk : k < 64) {r v : Int32} (ho : sO S k = r) (hv : v ≠ -1) : nbK S k v 64 = eW S r v 0 k + eW S r v 1 k + eW S r v 2 k + eW S r v 3 k := by
  unfold nbK
  rw [ct_sm, ← nb_sm hk ho hv 0, ← nb_sm hk ho hv 1, ← nb_sm hk ho hv 2, ← nb_sm hk ho hv 3, ← sm_ad, ← sm_ad, ← sm_ad]
  refine sm_congr (fun o ho => ?_)
  have h := bsd_i ⟨k, hk⟩ ⟨o, ho⟩
  by_cases q : sO S o = v
  · simpa [q] using h
  · simp [q]
theorem sbf_eW {S : ST} {r : Int32} {c : Nat} (e : sO S c = r) : sbf S r c + (eW S r r 0 c + eW S r r 1 c + eW S r r 2 c + eW S r r 3 c) = 4 := by
  unfold sbf eW
  simp only [e, if_true, true_and, ct]
  by_cases h0 : oo (sO S) (nb c 0) = r <;> by_cases h1 : oo (sO S) (nb c 1) = r <;> by_cases h2 : oo (sO S) (nb c 2) = r <;> by_cases h3 : oo (sO S) (nb c 3) = r <;> simp [h0, h1, h2, h3]
def ard (S : ST) (r : Int32) (n : Nat) : Nat := sm (fun k => if sO S k = r then 4 - nbK S k r 64 else 0) n
def bdr (S : ST) (r v : Int32) (n : Nat) : Nat := sm (fun k => if sO S k = r then nbK S k v 64 else 0) n
theorem nbk_4 {S : ST} {k : Nat} (hk : k < 64) {r : Int32} (ho : sO S k = r) (hr : r ≠ -1) : nbK S k r 64 ≤ 4 := by
  rw [nbk_eW hk ho hr]
  have := sbf_eW ho
  omega
theorem ard_eq {S : ST} {r : Int32} (hr : r ≠ -1) : ard S r 64 = sbs S r := by
  unfold ard sbs
  refine sm_congr (fun k hk => ?_)
  by_cases e : sO S k = r
  · rw [if_pos e, nbk_eW hk e hr]
    have := sbf_eW e
    omega
  · rw [if_neg e]
    unfold sbf
    rw [if_neg e]
theorem bdr_eq {S : ST} {r v : Int32} (hr : r ≠ -1) (hv : v ≠ -1) : bdr S r v 64 = prs S r v + prs S v r := by
  rw [← pr4_eq hr hv]
  unfold bdr pr4
  refine sm_congr (fun k hk => ?_)
  by_cases e : sO S k = r
  · rw [if_pos e, nbk_eW hk e hv]
  · rw [if_neg e]
    unfold eW
    simp [e]
theorem o_al {S : ST} (hk : okS S) : ∀ n, n ≤ 64 → ct (fun c => sO S c == nI 0) n + ct (fun c => sO S c == nI 1) n + ct (fun c => sO S c == nI 2) n + ct (fun c => sO S c == nI 3) n + ct (fun c => sO S c == -1) n = n := by
  have t2 : ∀ a : Fin 4, (if (nI a.val == nI 0) = true then 1 else 0) + (if (nI a.val == nI 1) = true then 1 else 0) + (if (nI a.val == nI 2) = true then 1 else 0) + (if (nI a.val == nI 3) = true then 1 else 0) + (if (nI a.val == -1) = true then 1 else 0) = (1 : Nat) := by decide +kernel
  have t3 : (if ((-1 : Int32) == nI 0) = true then 1 else 0) + (if ((-1 : Int32) == nI 1) = true then 1 else 0) + (if ((-1 : Int32) == nI 2) = true then 1 else 0) + (if ((-1 : Int32) == nI 3) = true then 1 else 0) + (if ((-1 : Int32) == -1) = true then 1 else 0) = (1 : Nat) := by decide +kernel
  intro n
  induction n with
  | zero => intro _; rfl
  | succ n ih =>
    intro h
    have hi := ih (by omega)
    rw [ct_s, ct_s, ct_s, ct_s, ct_s]
    have hx : (if (sO S n == nI 0) = true then 1 else 0) + (if (sO S n == nI 1) = true then 1 else 0) + (if (sO S n == nI 2) = true then 1 else 0) + (if (sO S n == nI 3) = true then 1 else 0) + (if (sO S n == -1) = true then 1 else 0) = (1 : Nat) := by
      rcases hk.1 n (by omega) with e | ⟨k, hk4, e⟩
      · rw [e]; exact t3
      · rw [e]; exact t2 ⟨k, hk4⟩
    generalize (if (sO S n == nI 0) = true then 1 else 0) = x0 at hx ⊢
    generalize (if (sO S n == nI 1) = true then 1 else 0) = x1 at hx ⊢
    generalize (if (sO S n == nI 2) = true then 1 else 0) = x2 at hx ⊢
    generalize (if (sO S n == nI 3) = true then 1 else 0) = x3 at hx ⊢
    generalize (if (sO S n == -1) = true then 1 else 0) = x4 at hx ⊢
    omega
theorem o_all {S : ST} (hk : okS S) : sm (fun r => cO S (nI r)) 4 = 64 - cO S (-1) := by
  have h := o_al hk 64 (Nat.le_refl _)
  show ((((0 + cO S (nI 0)) + cO S (nI 1)) + cO S (nI 2)) + cO S (nI 3)) = 64 - cO S (-1)
  unfold cO
  omega
/-! ranks -/
theorem ct_mo {p q : Nat → Bool} {n : Nat} (h : ∀ i, i < n → p i = true → q i = true) : ct p n ≤ ct q n := by
  induction n with
  | zero => exact Nat.le_refl _
  | succ n ih =>
    have h1 := ih (fun i hi => h i (by omega))
    have h2 := h n (by omega)
    cases hp : p n with
    | false => rw [ct_f hp, ct_s]; omega
    | true => rw [ct_t hp, ct_t (h2 hp)]; omega
theorem ct_lt {p q : Nat → Bool} {n a : Nat} (ha : a < n) (h : ∀ i, i < n → p i = true → q i = true) (hp : p a = false) (hq : q a = true) : ct p n < ct q n := by
  induction n with
  | zero => exact absurd ha (Nat.not_lt_zero _)
  | succ n ih =>
    by_cases e : a = n
    · subst e
      have := ct_mo (p := p) (q := q) (n := a) (fun i hi => h i (by omega))
      rw [ct_f hp, ct_t hq]
      omega
    · have h1 := ih (by omega) (fun i hi => h i (by omega))
      have h2 := h n (by omega)
      cases hpn : p n with
      | false => rw [ct_f hpn, ct_s]; omega
      | true => rw [ct_t hpn, ct_t (h2 hpn)]; omega
def nF (f : Nat → Int32) (F : Nat → Nat) (n : Nat) : Prop := ∀ i, i < n → f i = nI (F i) ∧ F i < 2 ^ 31
section
variable {f g : Nat → Int32} {F H : Nat → Nat} {n : Nat}
theorem ahd_n (hF : nF f F n) (hH : nF g H n) {a b : Nat} (ha : a < n) (hb : b < n) : ahd f g a b = true ↔ F b < F a ∨ (F a = F b ∧ (H b < H a ∨ (H a = H b ∧ a < b))) := by
  obtain ⟨fa, fa2⟩ := hF a ha
  obtain ⟨fb, fb2⟩ := hF b hb
  obtain ⟨ga, ga2⟩ := hH a ha
  obtain ⟨gb, gb2⟩ := hH b hb
  unfold ahd
  rw [fa, fb, ga, gb]
  by_cases e : F a = F b
  · rw [if_pos (by rw [e])]
    by_cases e2 : H a = H b
    · rw [if_pos (by rw [e2]), decide_eq_true_iff]
      omega
    · rw [if_neg (fun q => e2 ((nI_eq ga2 gb2).mp q)), decide_eq_true_iff, pk_lt' gb2 ga2]
      omega
  · rw [if_neg (fun q => e ((nI_eq fa2 fb2).mp q)), decide_eq_true_iff, pk_lt' fb2 fa2]
    omega
theorem rk_lt (hF : nF f F n) (hH : nF g H n) {a : Nat} (ha : a < n) : rk f g n a < n := by
  have h := ct_lt (p := fun o => ahd f g o a) (q := fun _ => true) ha (fun _ _ _ => rfl) ahd_rf rfl
  have h2 := ct_le (fun _ => true) n
  unfold rk
  omega
theorem rk_mo (hF : nF f F n) (hH : nF g H n) {a b : Nat} (ha : a < n) (hb : b < n) (h : ahd f g a b = true) : rk f g n a < rk f g n b := by
  refine ct_lt ha (fun i hi q => ?_) ahd_rf h
  have h1 := (ahd_n hF hH hi ha).mp q
  have h2 := (ahd_n hF hH ha hb).mp h
  exact (ahd_n hF hH hi hb).mpr (by omega)
theorem rk_tr (hF : nF f F n) (hH : nF g H n) {a b : Nat} (ha : a < n) (hb : b < n) (h : rk f g n a < rk f g n b) : ahd f g a b = true := by
  by_cases e : a = b
  · subst e
    exact absurd h (Nat.lt_irrefl _)
  · by_cases q : ahd f g a b = true
    · exact q
    · have h2 : ahd f g b a = true := by
        have h3 : ¬ (F b < F a ∨ (F a = F b ∧ (H b < H a ∨ (H a = H b ∧ a < b)))) := fun z => q ((ahd_n hF hH ha hb).mpr z)
        exact (ahd_n hF hH hb ha).mpr (by omega)
      have := rk_mo hF hH hb ha h2
      omega
theorem rk_in (hF : nF f F n) (hH : nF g H n) {a b : Nat} (ha : a < n) (hb : b < n) (h : rk f g n a = rk f g n b) : a = b := by
  by_cases e : a = b
  · exact e
  · exfalso
    by_cases q : ahd f g a b = true
    · have := rk_mo hF hH ha hb q
      omega
    · have h2 : ahd f g b a = true := by
        have h3 : ¬ (F b < F a ∨ (F a = F b ∧ (H b < H a ∨ (H a = H b ∧ a < b)))) := fun z => q ((ahd_n hF hH ha hb).mpr z)
        exact (ahd_n hF hH hb ha).mpr (by omega)
      have := rk_mo hF hH hb ha h2
      omega
theorem sur4 {k : Nat → Nat} (hn : n ≤ 4) (hl : ∀ a, a < n → k a < n) (hi : ∀ a b, a < n → b < n → k a = k b → a = b) {p : Nat} (hp : p < n) : ∃ a, a < n ∧ k a = p := by
  have T4 : ∀ a b c d p : Fin 4, a ≠ b → a ≠ c → a ≠ d → b ≠ c → b ≠ d → c ≠ d → a = p ∨ b = p ∨ c = p ∨ d = p := by decide +kernel
  have T3 : ∀ a b c p : Fin 3, a ≠ b → a ≠ c → b ≠ c → a = p ∨ b = p ∨ c = p := by decide +kernel
  have T2 : ∀ a b p : Fin 2, a ≠ b → a = p ∨ b = p := by decide +kernel
  have ne : ∀ a b, a < n → b < n → a ≠ b → k a ≠ k b := fun a b ha hb h q => h (hi a b ha hb q)
  obtain rfl | rfl | rfl | rfl | rfl : n = 0 ∨ n = 1 ∨ n = 2 ∨ n = 3 ∨ n = 4 := by omega
  · exact absurd hp (Nat.not_lt_zero _)
  · have := hl 0 (by decide)
    exact ⟨0, by decide, by omega⟩
  · have h := T2 ⟨k 0, hl 0 (by decide)⟩ ⟨k 1, hl 1 (by decide)⟩ ⟨p, hp⟩ (fun q => ne 0 1 (by decide) (by decide) (by decide) (Fin.mk.inj q))
    rcases h with h | h
    · exact ⟨0, by decide, Fin.mk.inj h⟩
    · exact ⟨1, by decide, Fin.mk.inj h⟩
  · have h := T3 ⟨k 0, hl 0 (by decide)⟩ ⟨k 1, hl 1 (by decide)⟩ ⟨k 2, hl 2 (by decide)⟩ ⟨p, hp⟩ (fun q => ne 0 1 (by decide) (by decide) (by decide) (Fin.mk.inj q)) (fun q => ne 0 2 (by decide) (by decide) (by decide) (Fin.mk.inj q)) (fun q => ne 1 2 (by decide) (by decide) (by decide) (Fin.mk.inj q))
    rcases h with h | h | h
    · exact ⟨0, by decide, Fin.mk.inj h⟩
    · exact ⟨1, by decide, Fin.mk.inj h⟩
    · exact ⟨2, by decide, Fin.mk.inj h⟩
  · have h := T4 ⟨k 0, hl 0 (by decide)⟩ ⟨k 1, hl 1 (by decide)⟩ ⟨k 2, hl 2 (by decide)⟩ ⟨k 3, hl 3 (by decide)⟩ ⟨p, hp⟩ (fun q => ne 0 1 (by decide) (by decide) (by decide) (Fin.mk.inj q)) (fun q => ne 0 2 (by decide) (by decide) (by decide) (Fin.mk.inj q)) (fun q => ne 0 3 (by decide) (by decide) (by decide) (Fin.mk.inj q)) (fun q => ne 1 2 (by decide) (by decide) (by decide) (Fin.mk.inj q)) (fun q => ne 1 3 (by decide) (by decide) (by decide) (Fin.mk.inj q)) (fun q => ne 2 3 (by decide) (by decide) (by decide) (Fin.mk.inj q))
    rcases h with h | h | h | h
    · exact ⟨0, by decide, Fin.mk.inj h⟩
    · exact ⟨1, by decide, Fin.mk.inj h⟩
    · exact ⟨2, by decide, Fin.mk.inj h⟩
    · exact ⟨3, by decide, Fin.mk.inj h⟩
theorem plc_y (hn : n ≤ 4) (hF : nF f F n) (hH : nF g H n) {p : Nat} (hp : p < n) : ∃ a, a < n ∧ plc f g n (nI p) = some a ∧ rk f g n a = p := by
  obtain ⟨b, hb, hb2⟩ := sur4 (k := rk f g n) hn (fun a ha => rk_lt hF hH ha) (fun a b ha hb h => rk_in hF hH ha hb h) hp
  cases e : plc f g n (nI p) with
  | none =>
    have h := List.find?_eq_none.mp e b (List.mem_range.mpr hb)
    rw [hb2] at h
    exact absurd (beq_self_eq_true _) h
  | some a =>
    have ha := List.mem_range.mp (List.mem_of_find?_eq_some e)
    have h2 : (nI (rk f g n a) == nI p) = true := List.find?_some (p := fun a => nI (rk f g n a) == nI p) e
    have h2 := eq_of_beq h2
    have h3 := rk_lt hF hH ha
    exact ⟨a, ha, rfl, (nI_eq (by omega) (by omega)).mp h2⟩
theorem plc_n (hn : n ≤ 4) (hF : nF f F n) (hH : nF g H n) : plc f g n (nI n) = none := by
  refine List.find?_eq_none.mpr (fun a ha q => ?_)
  have h3 := rk_lt hF hH (List.mem_range.mp ha)
  have := (nI_eq (by omega) (by omega)).mp (eq_of_beq q)
  omega
/-- what the law finds from one rank to the next -/
theorem by_ok {x y u v a b : Nat} (hx : x < 2 ^ 31) (hy : y < 2 ^ 31) (hu : u < 2 ^ 31) (hv : v < 2 ^ 31) (h : y < x ∨ (x = y ∧ (v < u ∨ (u = v ∧ a < b)))) :
    (nI x - nI y ≠ 0 ∧ ¬ nI x - nI y < 0) ∨ (nI x - nI y = 0 ∧ ¬ nI u - nI v < 0 ∧ (nI u - nI v ≠ 0 ∨ ¬ b < a)) := by
  have ps : ∀ {p q : Nat}, q < p → p < 2 ^ 31 → nI p - nI q ≠ 0 ∧ ¬ nI p - nI q < 0 := by
    intro p q h1 h2
    rw [pk_sub (by omega)]
    exact ⟨fun z => by have := (nI_eq (a := p - q) (b := 0) (by omega) (by decide)).mp z; omega, nI_pos (by omega)⟩
  rcases h with h | ⟨rfl, h⟩
  · exact Or.inl (ps h hx)
  · refine Or.inr ⟨Int32.sub_self _, ?_⟩
    rcases h with h | ⟨rfl, h⟩
    · exact ⟨(ps h hu).2, Or.inl (ps h hu).1⟩
    · exact ⟨by rw [Int32.sub_self]; decide, Or.inr (by omega)⟩
end
