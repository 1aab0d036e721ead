/-! the reference: its row changed -/
theorem rA_own {S : ST} {f : Nat → Int32} (h : rA S f) (hk : okS S) {c : Nat} (hc : c < 64) (v : Int32) : rA (pO S (upd (sO S) c v)) (upd f (19 + c) v) := by
  obtain ⟨q0, q1, ⟨m0, m1, m2, m3, m4⟩, qr, qc, qv, qd⟩ := h
  have h4 := hk.2.1.1
  have h5 := hk.2.2.1.1
  exact ⟨(pk_un (by omega)).trans q0, (pk_un (by omega)).trans q1, ⟨(pk_un (by omega)).trans m0, (pk_un (by omega)).trans m1, (pk_un (by omega)).trans m2, (pk_un (by omega)).trans m3, (pk_un (by omega)).trans m4⟩, fun r hr => ⟨(pk_un (by omega)).trans (qr r hr).1, (pk_un (by omega)).trans (qr r hr).2.1, (pk_un (by omega)).trans (qr r hr).2.2⟩, fun c2 hc2 => by
    show upd f (19 + c) v (19 + c2) = upd (sO S) c v c2
    by_cases e : c2 = c
    · rw [e, pk_us, pk_us]
    · rw [pk_un (by omega), pk_un e]; exact qc c2 hc2, fun i hi => by
    have hi : i < nR S := hi
    have h12 := (hk.2.1.2 i hi).2.2.1
    exact ⟨(pk_un (by omega)).trans (qv i hi).1, (pk_un (by omega)).trans (qv i hi).2.1, (pk_un (by omega)).trans (qv i hi).2.2.1, fun k hk2 => by
      have hk2 : k < rN S i := hk2
      exact (pk_un (by omega)).trans ((qv i hi).2.2.2 k hk2)⟩, fun i hi => by
    have hi : i < nD S := hi
    exact ⟨(pk_un (by omega)).trans (qd i hi).1, (pk_un (by omega)).trans (qd i hi).2.1, (pk_un (by omega)).trans (qd i hi).2.2⟩⟩
theorem rA_coin {S : ST} {f : Nat → Int32} (h : rA S f) (hk : okS S) {a : Nat} (ha : a < 4) (v : Int32) : rA (pC S (upd (sC S) a v)) (upd f (7 + 3 * a) v) := by
  obtain ⟨q0, q1, ⟨m0, m1, m2, m3, m4⟩, qr, qc, qv, qd⟩ := h
  have h4 := hk.2.1.1
  have h5 := hk.2.2.1.1
  exact ⟨(pk_un (by omega)).trans q0, (pk_un (by omega)).trans q1, ⟨(pk_un (by omega)).trans m0, (pk_un (by omega)).trans m1, (pk_un (by omega)).trans m2, (pk_un (by omega)).trans m3, (pk_un (by omega)).trans m4⟩, fun r hr => ⟨(by
    show upd f (7 + 3 * a) v (7 + 3 * r) = upd (sC S) a v r
    by_cases e : r = a
    · rw [e, pk_us, pk_us]
    · rw [pk_un (by omega), pk_un e]; exact (qr r hr).1), (pk_un (by omega)).trans (qr r hr).2.1, (pk_un (by omega)).trans (qr r hr).2.2⟩, fun c2 hc2 => (pk_un (by omega)).trans (qc c2 hc2), fun i hi => by
    have hi : i < nR S := hi
    have h12 := (hk.2.1.2 i hi).2.2.1
    exact ⟨(pk_un (by omega)).trans (qv i hi).1, (pk_un (by omega)).trans (qv i hi).2.1, (pk_un (by omega)).trans (qv i hi).2.2.1, fun k hk2 => by
      have hk2 : k < rN S i := hk2
      exact (pk_un (by omega)).trans ((qv i hi).2.2.2 k hk2)⟩, fun i hi => by
    have hi : i < nD S := hi
    exact ⟨(pk_un (by omega)).trans (qd i hi).1, (pk_un (by omega)).trans (qd i hi).2.1, (pk_un (by omega)).trans (qd i hi).2.2⟩⟩
theorem rA_won {S : ST} {f : Nat → Int32} (h : rA S f) (hk : okS S) {a : Nat} (ha : a < 4) (v : Int32) : rA (pW S (upd (sW S) a v)) (upd f (7 + 3 * a + 1) v) := by
  obtain ⟨q0, q1, ⟨m0, m1, m2, m3, m4⟩, qr, qc, qv, qd⟩ := h
  have h4 := hk.2.1.1
  have h5 := hk.2.2.1.1
  exact ⟨(pk_un (by omega)).trans q0, (pk_un (by omega)).trans q1, ⟨(pk_un (by omega)).trans m0, (pk_un (by omega)).trans m1, (pk_un (by omega)).trans m2, (pk_un (by omega)).trans m3, (pk_un (by omega)).trans m4⟩, fun r hr => ⟨(pk_un (by omega)).trans (qr r hr).1, (by
    show upd f (7 + 3 * a + 1) v (7 + 3 * r + 1) = upd (sW S) a v r
    by_cases e : r = a
    · rw [e, pk_us, pk_us]
    · rw [pk_un (by omega), pk_un e]; exact (qr r hr).2.1), (pk_un (by omega)).trans (qr r hr).2.2⟩, fun c2 hc2 => (pk_un (by omega)).trans (qc c2 hc2), fun i hi => by
    have hi : i < nR S := hi
    have h12 := (hk.2.1.2 i hi).2.2.1
    exact ⟨(pk_un (by omega)).trans (qv i hi).1, (pk_un (by omega)).trans (qv i hi).2.1, (pk_un (by omega)).trans (qv i hi).2.2.1, fun k hk2 => by
      have hk2 : k < rN S i := hk2
      exact (pk_un (by omega)).trans ((qv i hi).2.2.2 k hk2)⟩, fun i hi => by
    have hi : i < nD S := hi
    exact ⟨(pk_un (by omega)).trans (qd i hi).1, (pk_un (by omega)).trans (qd i hi).2.1, (pk_un (by omega)).trans (qd i hi).2.2⟩⟩
theorem rA_lost {S : ST} {f : Nat → Int32} (h : rA S f) (hk : okS S) {a : Nat} (ha : a < 4) (v : Int32) : rA (pL S (upd (sL S) a v)) (upd f (7 + 3 * a + 2) v) := by
  obtain ⟨q0, q1, ⟨m0, m1, m2, m3, m4⟩, qr, qc, qv, qd⟩ := h
  have h4 := hk.2.1.1
  have h5 := hk.2.2.1.1
  exact ⟨(pk_un (by omega)).trans q0, (pk_un (by omega)).trans q1, ⟨(pk_un (by omega)).trans m0, (pk_un (by omega)).trans m1, (pk_un (by omega)).trans m2, (pk_un (by omega)).trans m3, (pk_un (by omega)).trans m4⟩, fun r hr => ⟨(pk_un (by omega)).trans (qr r hr).1, (pk_un (by omega)).trans (qr r hr).2.1, (by
    show upd f (7 + 3 * a + 2) v (7 + 3 * r + 2) = upd (sL S) a v r
    by_cases e : r = a
    · rw [e, pk_us, pk_us]
    · rw [pk_un (by omega), pk_un e]; exact (qr r hr).2.2)⟩, fun c2 hc2 => (pk_un (by omega)).trans (qc c2 hc2), fun i hi => by
    have hi : i < nR S := hi
    have h12 := (hk.2.1.2 i hi).2.2.1
    exact ⟨(pk_un (by omega)).trans (qv i hi).1, (pk_un (by omega)).trans (qv i hi).2.1, (pk_un (by omega)).trans (qv i hi).2.2.1, fun k hk2 => by
      have hk2 : k < rN S i := hk2
      exact (pk_un (by omega)).trans ((qv i hi).2.2.2 k hk2)⟩, fun i hi => by
    have hi : i < nD S := hi
    exact ⟨(pk_un (by omega)).trans (qd i hi).1, (pk_un (by omega)).trans (qd i hi).2.1, (pk_un (by omega)).trans (qd i hi).2.2⟩⟩
theorem rA_misc {S : ST} {f : Nat → Int32} (h : rA S f) (hk : okS S) {j : Nat} (hj : j < 5) (v : Int32) : rA (pM S (upd (sM S) j v)) (upd f (2 + j) v) := by
  obtain ⟨q0, q1, ⟨m0, m1, m2, m3, m4⟩, qr, qc, qv, qd⟩ := h
  have h4 := hk.2.1.1
  have h5 := hk.2.2.1.1
  exact ⟨(pk_un (by omega)).trans q0, (pk_un (by omega)).trans q1, ⟨(by
    show upd f (2 + j) v 2 = upd (sM S) j v 0
    by_cases e : 0 = j
    · subst e; rw [pk_us, pk_us]
    · rw [pk_un (by omega), pk_un e]; exact m0), (by
    show upd f (2 + j) v 3 = upd (sM S) j v 1
    by_cases e : 1 = j
    · subst e; rw [pk_us, pk_us]
    · rw [pk_un (by omega), pk_un e]; exact m1), (by
    show upd f (2 + j) v 4 = upd (sM S) j v 2
    by_cases e : 2 = j
    · subst e; rw [pk_us, pk_us]
    · rw [pk_un (by omega), pk_un e]; exact m2), (by
    show upd f (2 + j) v 5 = upd (sM S) j v 3
    by_cases e : 3 = j
    · subst e; rw [pk_us, pk_us]
    · rw [pk_un (by omega), pk_un e]; exact m3), (by
    show upd f (2 + j) v 6 = upd (sM S) j v 4
    by_cases e : 4 = j
    · subst e; rw [pk_us, pk_us]
    · rw [pk_un (by omega), pk_un e]; exact m4)⟩, fun r hr => ⟨(pk_un (by omega)).trans (qr r hr).1, (pk_un (by omega)).trans (qr r hr).2.1, (pk_un (by omega)).trans (qr r hr).2.2⟩, fun c2 hc2 => (pk_un (by omega)).trans (qc c2 hc2), fun i hi => by
    have hi : i < nR S := hi
    have h12 := (hk.2.1.2 i hi).2.2.1
    exact ⟨(pk_un (by omega)).trans (qv i hi).1, (pk_un (by omega)).trans (qv i hi).2.1, (pk_un (by omega)).trans (qv i hi).2.2.1, fun k hk2 => by
      have hk2 : k < rN S i := hk2
      exact (pk_un (by omega)).trans ((qv i hi).2.2.2 k hk2)⟩, fun i hi => by
    have hi : i < nD S := hi
    exact ⟨(pk_un (by omega)).trans (qd i hi).1, (pk_un (by omega)).trans (qd i hi).2.1, (pk_un (by omega)).trans (qd i hi).2.2⟩⟩
/-- a row told by its first 158 numbers -/
theorem rA_eq {S : ST} {f g : Nat → Int32} (h : rA S f) (hk : okS S) (he : ∀ k, k < 158 → g k = f k) : rA S g := by
  obtain ⟨q0, q1, ⟨m0, m1, m2, m3, m4⟩, qr, qc, qv, qd⟩ := h
  have h4 := hk.2.1.1
  have h5 := hk.2.2.1.1
  exact ⟨(he _ (by omega)).trans q0, (he _ (by omega)).trans q1, ⟨(he _ (by omega)).trans m0, (he _ (by omega)).trans m1, (he _ (by omega)).trans m2, (he _ (by omega)).trans m3, (he _ (by omega)).trans m4⟩, fun r hr => ⟨(he _ (by omega)).trans (qr r hr).1, (he _ (by omega)).trans (qr r hr).2.1, (he _ (by omega)).trans (qr r hr).2.2⟩, fun c hc => (he _ (by omega)).trans (qc c hc), fun i hi => by
    have h12 := (hk.2.1.2 i hi).2.2.1
    exact ⟨(he _ (by omega)).trans (qv i hi).1, (he _ (by omega)).trans (qv i hi).2.1, (he _ (by omega)).trans (qv i hi).2.2.1, fun k hk2 => (he _ (by omega)).trans ((qv i hi).2.2.2 k hk2)⟩, fun i hi => ⟨(he _ (by omega)).trans (qd i hi).1, (he _ (by omega)).trans (qd i hi).2.1, (he _ (by omega)).trans (qd i hi).2.2⟩⟩
/-- a row, but where no river is told -/
theorem rA_eqr {S : ST} {f g : Nat → Int32} (h : rA S f) (hk : okS S) (he : ∀ k, (k < 83 + 15 * nR S ∨ 143 ≤ k) → g k = f k) : rA S g := by
  obtain ⟨q0, q1, ⟨m0, m1, m2, m3, m4⟩, qr, qc, qv, qd⟩ := h
  have h4 := hk.2.1.1
  have h5 := hk.2.2.1.1
  exact ⟨(he _ (by omega)).trans q0, (he _ (by omega)).trans q1, ⟨(he _ (by omega)).trans m0, (he _ (by omega)).trans m1, (he _ (by omega)).trans m2, (he _ (by omega)).trans m3, (he _ (by omega)).trans m4⟩, fun r hr => ⟨(he _ (by omega)).trans (qr r hr).1, (he _ (by omega)).trans (qr r hr).2.1, (he _ (by omega)).trans (qr r hr).2.2⟩, fun c hc => (he _ (by omega)).trans (qc c hc), fun i hi => by
    have h12 := (hk.2.1.2 i hi).2.2.1
    exact ⟨(he _ (by omega)).trans (qv i hi).1, (he _ (by omega)).trans (qv i hi).2.1, (he _ (by omega)).trans (qv i hi).2.2.1, fun k hk2 => (he _ (by omega)).trans ((qv i hi).2.2.2 k hk2)⟩, fun i hi => ⟨(he _ (by omega)).trans (qd i hi).1, (he _ (by omega)).trans (qd i hi).2.1, (he _ (by omega)).trans (qd i hi).2.2⟩⟩
theorem rA_take {S : ST} {f : Nat → Int32} (h : rA S f) (hk : okS S) {i : Nat} (hi : i < nD S) : rA (sRm S i) (upd (va_cpy f f (143 + 3 * i + 3) (143 + 3 * i) (3 * (nD S - 1 - i))) 1 (nI (nD S - 1))) := by
  obtain ⟨q0, q1, ⟨m0, m1, m2, m3, m4⟩, qr, qc, qv, qd⟩ := h
  have h4 := hk.2.1.1
  have h5 := hk.2.2.1.1
  have lo : ∀ k, k < 143 → k ≠ 1 → upd (va_cpy f f (143 + 3 * i + 3) (143 + 3 * i) (3 * (nD S - 1 - i))) 1 (nI (nD S - 1)) k = f k := fun k h1 h2 => by
    rw [pk_un h2, pk_cpy_out (Or.inl (by omega))]
  refine ⟨(lo _ (by omega) (by omega)).trans q0, pk_us, ⟨(lo _ (by omega) (by omega)).trans m0, (lo _ (by omega) (by omega)).trans m1, (lo _ (by omega) (by omega)).trans m2, (lo _ (by omega) (by omega)).trans m3, (lo _ (by omega) (by omega)).trans m4⟩, fun r hr => ⟨(lo _ (by omega) (by omega)).trans (qr r hr).1, (lo _ (by omega) (by omega)).trans (qr r hr).2.1, (lo _ (by omega) (by omega)).trans (qr r hr).2.2⟩, fun c hc => (lo _ (by omega) (by omega)).trans (qc c hc), fun i2 hi2 => ?_, fun j hj => ?_⟩
  · have hi2 : i2 < nR S := hi2
    have h12 := (hk.2.1.2 i2 hi2).2.2.1
    exact ⟨(lo _ (by omega) (by omega)).trans (qv i2 hi2).1, (lo _ (by omega) (by omega)).trans (qv i2 hi2).2.1, (lo _ (by omega) (by omega)).trans (qv i2 hi2).2.2.1, fun k hk2 => by
      have hk2 : k < rN S i2 := hk2
      exact (lo _ (by omega) (by omega)).trans ((qv i2 hi2).2.2.2 k hk2)⟩
  · have hj : j < nD S - 1 := hj
    have key : ∀ z, z < 3 → upd (va_cpy f f (143 + 3 * i + 3) (143 + 3 * i) (3 * (nD S - 1 - i))) 1 (nI (nD S - 1)) (143 + 3 * j + z) = if j < i then f (143 + 3 * j + z) else f (143 + 3 * (j + 1) + z) := by
      intro z hz
      rw [pk_un (by omega)]
      by_cases e : j < i
      · rw [if_pos e, pk_cpy_out (Or.inl (by omega))]
      · rw [if_neg e, pk_cpy_in (by omega) (by omega)]
        congr 1
        omega
    show upd _ 1 _ (143 + 3 * j) = nI (rmv (dC S) i j) ∧ upd _ 1 _ (143 + 3 * j + 1) = nI (rmv (dP S) i j) ∧ upd _ 1 _ (143 + 3 * j + 2) = nI (rmv (dQ S) i j)
    have k0 := key 0 (by decide)
    simp only [Nat.add_zero] at k0
    rw [k0, key 1 (by decide), key 2 (by decide)]
    unfold rmv
    by_cases e : j < i
    · simp only [if_pos e]
      exact qd j (by omega)
    · simp only [if_neg e]
      exact qd (j + 1) (by omega)
theorem rA_drop {S : ST} {f : Nat → Int32} (h : rA S f) (hk : okS S) {i : Nat} (hi : i < nR S) : rA (sRR S i) (upd (va_cpy f f (83 + 15 * i + 15) (83 + 15 * i) (15 * (nR S - 1 - i))) 0 (nI (nR S - 1))) := by
  obtain ⟨q0, q1, ⟨m0, m1, m2, m3, m4⟩, qr, qc, qv, qd⟩ := h
  have h4 := hk.2.1.1
  have h5 := hk.2.2.1.1
  have lo : ∀ k, (k < 83 ∨ 143 ≤ k) → k ≠ 0 → upd (va_cpy f f (83 + 15 * i + 15) (83 + 15 * i) (15 * (nR S - 1 - i))) 0 (nI (nR S - 1)) k = f k := fun k h1 h2 => by
    rw [pk_un h2, pk_cpy_out (by omega)]
  refine ⟨pk_us, (lo _ (by omega) (by omega)).trans q1, ⟨(lo _ (by omega) (by omega)).trans m0, (lo _ (by omega) (by omega)).trans m1, (lo _ (by omega) (by omega)).trans m2, (lo _ (by omega) (by omega)).trans m3, (lo _ (by omega) (by omega)).trans m4⟩, fun r hr => ⟨(lo _ (by omega) (by omega)).trans (qr r hr).1, (lo _ (by omega) (by omega)).trans (qr r hr).2.1, (lo _ (by omega) (by omega)).trans (qr r hr).2.2⟩, fun c hc => (lo _ (by omega) (by omega)).trans (qc c hc), fun j hj => ?_, fun j hj => ?_⟩
  · have hj : j < nR S - 1 := hj
    have key : ∀ z, z < 15 → upd (va_cpy f f (83 + 15 * i + 15) (83 + 15 * i) (15 * (nR S - 1 - i))) 0 (nI (nR S - 1)) (83 + 15 * j + z) = if j < i then f (83 + 15 * j + z) else f (83 + 15 * (j + 1) + z) := by
      intro z hz
      rw [pk_un (by omega)]
      by_cases e : j < i
      · rw [if_pos e, pk_cpy_out (Or.inl (by omega))]
      · rw [if_neg e, pk_cpy_in (by omega) (by omega)]
        congr 1
        omega
    have k0 := key 0 (by decide)
    simp only [Nat.add_zero] at k0
    show upd _ 0 _ (83 + 15 * j) = nI (rmv (rP S) i j 0) ∧ upd _ 0 _ (83 + 15 * j + 1) = nI (rmv (rT S) i j) ∧ upd _ 0 _ (83 + 15 * j + 2) = nI (rmv (rN S) i j) ∧ ∀ k, k < rmv (rN S) i j → upd _ 0 _ (83 + 15 * j + 3 + k) = nI (stF (sRR S i) j k)
    rw [k0, key 1 (by decide), key 2 (by decide)]
    unfold rmv
    by_cases e : j < i
    · simp only [if_pos e]
      have h12 := (hk.2.1.2 j (by omega)).2.2.1
      refine ⟨(qv j (by omega)).1, (qv j (by omega)).2.1, (qv j (by omega)).2.2.1, fun k hk2 => ?_⟩
      have kk := key (3 + k) (by omega)
      rw [← Nat.add_assoc, ← Nat.add_assoc, if_pos e] at kk
      rw [kk, (qv j (by omega)).2.2.2 k hk2]
      unfold stF
      simp only [show rP (sRR S i) j = rP S j from if_pos e]
    · simp only [if_neg e]
      have h12 := (hk.2.1.2 (j + 1) (by omega)).2.2.1
      refine ⟨(qv (j + 1) (by omega)).1, (qv (j + 1) (by omega)).2.1, (qv (j + 1) (by omega)).2.2.1, fun k hk2 => ?_⟩
      have kk := key (3 + k) (by omega)
      rw [← Nat.add_assoc, ← Nat.add_assoc, if_neg e] at kk
      rw [kk, (qv (j + 1) (by omega)).2.2.2 k hk2]
      unfold stF
      simp only [show rP (sRR S i) j = rP S (j + 1) from if_neg e]
  · have hj : j < nD S := hj
    exact ⟨(lo _ (by omega) (by omega)).trans (qd j hj).1, (lo _ (by omega) (by omega)).trans (qd j hj).2.1, (lo _ (by omega) (by omega)).trans (qd j hj).2.2⟩
/-- a river drawn into the row -/
theorem rA_draw {S : ST} {f g : Nat → Int32} (h : rA S f) (hk : okS S) (h4 : nR S < 4) {pl ds : Nat → Nat} {l t : Nat} (hl : l ≤ 12) (hpl : ∀ q, q ≤ l → pl q < 64) (hds : ∀ q, q < l → ds q < 4 ∧ nb (pl q) (ds q) = some (pl (q + 1))) (h0 : g 0 = nI (nR S + 1)) (ho : ∀ k, k ≠ 0 → (k < 83 + 15 * nR S ∨ 143 ≤ k) → g k = f k) (g0 : g (83 + 15 * nR S) = nI (pl 0)) (g1 : g (83 + 15 * nR S + 1) = nI t) (g2 : g (83 + 15 * nR S + 2) = nI l) (g3 : ∀ k, k < l → g (83 + 15 * nR S + 3 + k) = nI (ds k)) : rA (sAR S pl l t) g := by
  obtain ⟨q0, q1, ⟨m0, m1, m2, m3, m4⟩, qr, qc, qv, qd⟩ := h
  have h5 := hk.2.2.1.1
  refine ⟨h0, (ho _ (by omega) (by omega)).trans q1, ⟨(ho _ (by omega) (by omega)).trans m0, (ho _ (by omega) (by omega)).trans m1, (ho _ (by omega) (by omega)).trans m2, (ho _ (by omega) (by omega)).trans m3, (ho _ (by omega) (by omega)).trans m4⟩, fun r hr => ⟨(ho _ (by omega) (by omega)).trans (qr r hr).1, (ho _ (by omega) (by omega)).trans (qr r hr).2.1, (ho _ (by omega) (by omega)).trans (qr r hr).2.2⟩, fun c hc => (ho _ (by omega) (by omega)).trans (qc c hc), fun j hj => ?_, fun j hj => ?_⟩
  · have hj : j < nR S + 1 := hj
    show g (83 + 15 * j) = nI (va_up (rP S) (nR S) pl j 0) ∧ g (83 + 15 * j + 1) = nI (va_up (rT S) (nR S) t j) ∧ g (83 + 15 * j + 2) = nI (va_up (rN S) (nR S) l j) ∧ ∀ k, k < va_up (rN S) (nR S) l j → g (83 + 15 * j + 3 + k) = nI (stF (sAR S pl l t) j k)
    unfold va_up
    by_cases e : j = nR S
    · simp only [if_pos e]
      rw [e]
      refine ⟨g0, g1, g2, fun k hk2 => ?_⟩
      rw [g3 k hk2]
      have hr : rP (sAR S pl l t) (nR S) = pl := if_pos rfl
      unfold stF
      simp only [hr]
      obtain ⟨d4, dn⟩ := hds k hk2
      cases e2 : (List.range 4).find? (fun d => nb (pl k) d == some (pl (k + 1))) with
      | none =>
        have := List.find?_eq_none.mp e2 (ds k) (List.mem_range.mpr d4)
        exact absurd (beq_iff_eq.mpr dn) this
      | some d =>
        have hd : nb (pl k) d = some (pl (k + 1)) := by simpa using List.find?_some e2
        have hd4 : d < 4 := List.mem_range.mp (List.mem_of_find?_eq_some e2)
        rw [nb_uq (hpl k (by omega)) d4 hd4 dn hd]
        rfl
    · simp only [if_neg e]
      have h12 := (hk.2.1.2 j (by omega)).2.2.1
      refine ⟨(ho _ (by omega) (by omega)).trans (qv j (by omega)).1, (ho _ (by omega) (by omega)).trans (qv j (by omega)).2.1, (ho _ (by omega) (by omega)).trans (qv j (by omega)).2.2.1, fun k hk2 => ?_⟩
      rw [ho _ (by omega) (by omega), (qv j (by omega)).2.2.2 k hk2]
      unfold stF
      simp only [show rP (sAR S pl l t) j = rP S j from if_neg e]
  · have hj : j < nD S := hj
    exact ⟨(ho _ (by omega) (by omega)).trans (qd j hj).1, (ho _ (by omega) (by omega)).trans (qd j hj).2.1, (ho _ (by omega) (by omega)).trans (qd j hj).2.2⟩
theorem rA_dragon {S : ST} {f : Nat → Int32} (h : rA S f) (hk : okS S) (h5 : nD S < 5) {c p a : Nat} (ha : a < 4) : rA (sAD S c p a) (upd (upd (upd (upd (upd f (7 + 3 * a) (sC S a - nI p)) (143 + 3 * nD S) (nI c)) (143 + 3 * nD S + 1) (nI p)) (143 + 3 * nD S + 2) (nI a)) 1 (nI (nD S + 1))) := by
  have hc := rA_coin h hk ha (sC S a - nI p)
  obtain ⟨q0, q1, ⟨m0, m1, m2, m3, m4⟩, qr, qc, qv, qd⟩ := hc
  have h4 := hk.2.1.1
  have lo : ∀ k, k < 143 + 3 * nD S → k ≠ 1 → upd (upd (upd (upd (upd f (7 + 3 * a) (sC S a - nI p)) (143 + 3 * nD S) (nI c)) (143 + 3 * nD S + 1) (nI p)) (143 + 3 * nD S + 2) (nI a)) 1 (nI (nD S + 1)) k = upd f (7 + 3 * a) (sC S a - nI p) k := fun k h1 h2 => by
    rw [pk_un h2, pk_un (by omega), pk_un (by omega), pk_un (by omega)]
  refine ⟨(lo _ (by omega) (by omega)).trans q0, pk_us, ⟨(lo _ (by omega) (by omega)).trans m0, (lo _ (by omega) (by omega)).trans m1, (lo _ (by omega) (by omega)).trans m2, (lo _ (by omega) (by omega)).trans m3, (lo _ (by omega) (by omega)).trans m4⟩, fun r hr => ⟨(lo _ (by omega) (by omega)).trans (qr r hr).1, (lo _ (by omega) (by omega)).trans (qr r hr).2.1, (lo _ (by omega) (by omega)).trans (qr r hr).2.2⟩, fun c hc => (lo _ (by omega) (by omega)).trans (qc c hc), fun i2 hi2 => ?_, fun j hj => ?_⟩
  · have hi2 : i2 < nR S := hi2
    have h12 := (hk.2.1.2 i2 hi2).2.2.1
    exact ⟨(lo _ (by omega) (by omega)).trans (qv i2 hi2).1, (lo _ (by omega) (by omega)).trans (qv i2 hi2).2.1, (lo _ (by omega) (by omega)).trans (qv i2 hi2).2.2.1, fun k hk2 => by
      have hk2 : k < rN S i2 := hk2
      exact (lo _ (by omega) (by omega)).trans ((qv i2 hi2).2.2.2 k hk2)⟩
  · have hj : j < nD S + 1 := hj
    show upd _ 1 _ (143 + 3 * j) = nI (va_up (dC S) (nD S) c j) ∧ upd _ 1 _ (143 + 3 * j + 1) = nI (va_up (dP S) (nD S) p j) ∧ upd _ 1 _ (143 + 3 * j + 2) = nI (va_up (dQ S) (nD S) a j)
    unfold va_up
    by_cases e : j = nD S
    · simp only [if_pos e]
      rw [e]
      refine ⟨?_, ?_, ?_⟩
      · rw [pk_un (by omega), pk_un (by omega), pk_un (by omega), pk_us]
      · rw [pk_un (by omega), pk_un (by omega), pk_us]
      · rw [pk_un (by omega), pk_us]
    · simp only [if_neg e]
      exact ⟨(lo _ (by omega) (by omega)).trans (qd j (by omega : j < nD S)).1, (lo _ (by omega) (by omega)).trans (qd j (by omega : j < nD S)).2.1, (lo _ (by omega) (by omega)).trans (qd j (by omega : j < nD S)).2.2⟩
