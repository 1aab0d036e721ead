/-! changes of a map, and of the cells that hold it -/
abbrev pO (S : ST) (f : Nat → Int32) : ST := (f, S.2)
abbrev pC (S : ST) (f : Nat → Int32) : ST := (S.1, f, S.2.2)
abbrev pW (S : ST) (f : Nat → Int32) : ST := (S.1, S.2.1, f, S.2.2.2)
abbrev pL (S : ST) (f : Nat → Int32) : ST := (S.1, S.2.1, S.2.2.1, f, S.2.2.2.2)
abbrev pM (S : ST) (f : Nat → Int32) : ST := (S.1, S.2.1, S.2.2.1, S.2.2.2.1, f, S.2.2.2.2.2)
abbrev pR (S : ST) (n : Nat) (p : Nat → Nat → Nat) (l t : Nat → Nat) : ST := (S.1, S.2.1, S.2.2.1, S.2.2.2.1, S.2.2.2.2.1, (n, p, l, t), S.2.2.2.2.2.2)
abbrev pD (S : ST) (n : Nat) (c p q : Nat → Nat) : ST := (S.1, S.2.1, S.2.2.1, S.2.2.2.1, S.2.2.2.2.1, S.2.2.2.2.2.1, (n, c, p, q))
/-- a row without its place i -/
def rmv {α : Type} (f : Nat → α) (i : Nat) : Nat → α := fun j => if j < i then f j else f (j + 1)
def shf {α : Type} (f : Nat → α) (i t : Nat) : Nat → α := fun j => if i ≤ j ∧ j < t then f (j + 1) else f j
theorem shf_0 {α : Type} (f : Nat → α) (i : Nat) : shf f i i = f := by
  funext j
  unfold shf
  rw [if_neg (by omega)]
theorem shf_at {α : Type} (f : Nat → α) {i t : Nat} : shf f i t (t + 1) = f (t + 1) := by
  unfold shf
  rw [if_neg (by omega)]
theorem shf_step (f : Nat → Int32) {i t : Nat} (h : i ≤ t) : upd (shf f i t) t (f (t + 1)) = shf f i (t + 1) := by
  funext j
  unfold upd shf
  by_cases h1 : j = t
  · subst h1
    rw [if_pos rfl, if_pos ⟨h, by omega⟩]
  · rw [if_neg h1]
    by_cases h2 : i ≤ j ∧ j < t
    · rw [if_pos h2, if_pos ⟨h2.1, by omega⟩]
    · rw [if_neg h2, if_neg (by omega)]
theorem shf_rmv {α : Type} (f : Nat → α) {i n j : Nat} (h : j < n - 1) : shf f i (n - 1) j = rmv f i j := by
  unfold shf rmv
  by_cases h2 : j < i
  · rw [if_pos h2, if_neg (by omega)]
  · rw [if_neg h2, if_pos ⟨by omega, h⟩]
def sRm (S : ST) (i : Nat) : ST := pD S (nD S - 1) (rmv (dC S) i) (rmv (dP S) i) (rmv (dQ S) i)
/-- a dragon refunded -/
def sRf (S : ST) (i : Nat) : ST := sRm (pM (pC S (upd (sC S) (dQ S i) (sC S (dQ S i) + nI (dP S i)))) (upd (sM S) 2 (sM S 2 + nI 1))) i
def sGv (S : ST) (c : Nat) (v : Int32) : ST := match dOn S c with
  | none => pO S (upd (sO S) c v)
  | some i => sRf (pO S (upd (sO S) c v)) i
def sSh (S : ST) (c a r : Nat) : ST := let T := sGv S c (nI r)
  pM (pL (pW T (upd (sW T) r (sW T r + nI 1))) (upd (sL T) a (sL T a + nI 1))) (upd (sM T) 1 (sM T 1 + nI 1))
def sMi (S : ST) (m : Nat) : ST := pM S (upd (sM S) 0 (nI m))
def sAR (S : ST) (p : Nat → Nat) (l t : Nat) : ST := pR S (nR S + 1) (va_up (rP S) (nR S) p) (va_up (rN S) (nR S) l) (va_up (rT S) (nR S) t)
def sRR (S : ST) (i : Nat) : ST := pR S (nR S - 1) (rmv (rP S) i) (rmv (rN S) i) (rmv (rT S) i)
def sAD (S : ST) (c p a : Nat) : ST := pD (pC S (upd (sC S) a (sC S a - nI p))) (nD S + 1) (va_up (dC S) (nD S) c) (va_up (dP S) (nD S) p) (va_up (dQ S) (nD S) a)
def sSc (S : ST) (i : Nat) : ST := sRm (pM S (upd (upd (sM S) 3 (sM S 3 + nI 1)) 4 (sM S 4 + nI (dP S i)))) i
/-! what stays sound -/
theorem rmv_lt {α : Type} {P : α → Prop} {f : Nat → α} {i n : Nat} (h : ∀ j, j < n → P (f j)) (hi : i < n) : ∀ j, j < n - 1 → P (rmv f i j) := by
  intro j hj
  unfold rmv
  split
  · exact h j (by omega)
  · exact h (j + 1) (by omega)
theorem ok_pO {S : ST} (h : okS S) {c : Nat} {v : Int32} (hv : r5 v) : okS (pO S (upd (sO S) c v)) := by
  refine ⟨fun c' hc' => ?_, h.2.1, h.2.2.1, h.2.2.2⟩
  show r5 (upd (sO S) c v c')
  unfold upd
  split
  · exact hv
  · exact h.1 c' hc'
theorem ok_pC {S : ST} (h : okS S) (f : Nat → Int32) : okS (pC S f) := h
theorem ok_pW {S : ST} (h : okS S) (f : Nat → Int32) : okS (pW S f) := h
theorem ok_pL {S : ST} (h : okS S) (f : Nat → Int32) : okS (pL S f) := h
theorem ok_pM {S : ST} (h : okS S) {j : Nat} (hj : j ≠ 0) (v : Int32) : okS (pM S (upd (sM S) j v)) := by
  obtain ⟨h1, h2, h3, m, h4, h5, h6⟩ := h
  refine ⟨h1, h2, h3, m, h4, h5, ?_⟩
  show upd (sM S) j v 0 = nI m
  unfold upd
  rw [if_neg (fun q => hj q.symm)]
  exact h6
theorem ok_mi {S : ST} (h : okS S) {m : Nat} (h1 : 1 ≤ m) (h9 : m ≤ 9) : okS (sMi S m) := ⟨h.1, h.2.1, h.2.2.1, m, h1, h9, by show upd (sM S) 0 (nI m) 0 = nI m; simp [upd]⟩
theorem ok_rm {S : ST} (h : okS S) {i : Nat} (hi : i < nD S) : okS (sRm S i) := by
  obtain ⟨h1, h2, ⟨h3, h4, h5⟩, h6⟩ := h
  refine ⟨h1, h2, ⟨?_, ?_, ?_⟩, h6⟩
  · show nD S - 1 ≤ 5
    omega
  · intro j hj
    have hj : j < nD S - 1 := hj
    show rmv (dC S) i j < 64 ∧ 1 ≤ rmv (dP S) i j ∧ rmv (dP S) i j ≤ 50 ∧ rmv (dQ S) i j < 4
    unfold rmv
    split
    · exact h4 j (by omega)
    · exact h4 (j + 1) (by omega)
  · intro a b ha hb hab
    have ha : a < nD S - 1 := ha
    have hb : b < nD S - 1 := hb
    have hab : rmv (dC S) i a = rmv (dC S) i b := hab
    unfold rmv at hab
    split at hab <;> split at hab
    · exact h5 a b (by omega) (by omega) hab
    · have := h5 a (b + 1) (by omega) (by omega) hab; omega
    · have := h5 (a + 1) b (by omega) (by omega) hab; omega
    · have := h5 (a + 1) (b + 1) (by omega) (by omega) hab; omega
theorem ok_rf {S : ST} (h : okS S) {i : Nat} (hi : i < nD S) : okS (sRf S i) := ok_rm (ok_pM (ok_pC h _) (by decide) _) hi
theorem dOn_lt {S : ST} {c i : Nat} (h : dOn S c = some i) : i < nD S ∧ dC S i = c := by
  unfold dOn at h
  have h1 := List.find?_some h
  have h2 := List.mem_of_find?_eq_some h
  exact ⟨List.mem_range.mp h2, by simpa using h1⟩
theorem ok_gv {S : ST} (h : okS S) {c : Nat} {v : Int32} (hv : r5 v) : okS (sGv S c v) := by
  unfold sGv
  split
  · exact ok_pO h hv
  · rename_i i hi
    exact ok_rf (ok_pO h hv) (dOn_lt hi).1
theorem ok_sh {S : ST} (h : okS S) {c a r : Nat} (hr : r < 4) : okS (sSh S c a r) := ok_pM (ok_pL (ok_pW (ok_gv h (Or.inr ⟨r, hr, rfl⟩)) _) _) (by decide) _
theorem ok_ar {S : ST} (h : okS S) {p : Nat → Nat} {l t : Nat} (hn : nR S < 4) (ht : t ≤ 99) (h1 : 1 ≤ l) (h12 : l ≤ 12) (hp : ∀ q, q ≤ l → p q < 64) (hs : ∀ q, q < l → ∃ d, d < 4 ∧ nb (p q) d = some (p (q + 1))) : okS (sAR S p l t) := by
  obtain ⟨g1, ⟨g2, g3⟩, g4, g5⟩ := h
  refine ⟨g1, ⟨?_, fun i hi => ?_⟩, g4, g5⟩
  · show nR S + 1 ≤ 4
    omega
  · have hi : i < nR S + 1 := hi
    show va_up (rT S) (nR S) t i ≤ 99 ∧ 1 ≤ va_up (rN S) (nR S) l i ∧ va_up (rN S) (nR S) l i ≤ 12 ∧ (∀ q, q ≤ va_up (rN S) (nR S) l i → va_up (rP S) (nR S) p i q < 64) ∧ ∀ q, q < va_up (rN S) (nR S) l i → ∃ d, d < 4 ∧ nb (va_up (rP S) (nR S) p i q) d = some (va_up (rP S) (nR S) p i (q + 1))
    unfold va_up
    by_cases e : i = nR S
    · simp only [if_pos e]
      exact ⟨ht, h1, h12, hp, hs⟩
    · simp only [if_neg e]
      exact g3 i (by omega)
theorem ok_rr {S : ST} (h : okS S) {i : Nat} (hi : i < nR S) : okS (sRR S i) := by
  obtain ⟨g1, ⟨g2, g3⟩, g4, g5⟩ := h
  refine ⟨g1, ⟨?_, fun j hj => ?_⟩, g4, g5⟩
  · show nR S - 1 ≤ 4
    omega
  · have hj : j < nR S - 1 := hj
    show rmv (rT S) i j ≤ 99 ∧ 1 ≤ rmv (rN S) i j ∧ rmv (rN S) i j ≤ 12 ∧ (∀ q, q ≤ rmv (rN S) i j → rmv (rP S) i j q < 64) ∧ ∀ q, q < rmv (rN S) i j → ∃ d, d < 4 ∧ nb (rmv (rP S) i j q) d = some (rmv (rP S) i j (q + 1))
    unfold rmv
    by_cases e : j < i
    · simp only [if_pos e]
      exact g3 j (by omega)
    · simp only [if_neg e]
      exact g3 (j + 1) (by omega)
theorem ok_ad {S : ST} (h : okS S) {c p a : Nat} (hn : nD S < 5) (hc : c < 64) (h1 : 1 ≤ p) (hp : p ≤ 50) (ha : a < 4) (hf : dOn S c = none) : okS (sAD S c p a) := by
  obtain ⟨g1, g2, ⟨g3, g4, g5⟩, g6⟩ := h
  have hno : ∀ j, j < nD S → dC S j ≠ c := by
    intro j hj q
    unfold dOn at hf
    have := List.find?_eq_none.mp hf j (List.mem_range.mpr hj)
    simp [q] at this
  refine ⟨g1, g2, ⟨?_, fun j hj => ?_, fun i j hi hj hij => ?_⟩, g6⟩
  · show nD S + 1 ≤ 5
    omega
  · have hj : j < nD S + 1 := hj
    show va_up (dC S) (nD S) c j < 64 ∧ 1 ≤ va_up (dP S) (nD S) p j ∧ va_up (dP S) (nD S) p j ≤ 50 ∧ va_up (dQ S) (nD S) a j < 4
    unfold va_up
    by_cases e : j = nD S
    · simp only [if_pos e]
      exact ⟨hc, h1, hp, ha⟩
    · simp only [if_neg e]
      exact g4 j (by omega)
  · have hi : i < nD S + 1 := hi
    have hj : j < nD S + 1 := hj
    have hij : va_up (dC S) (nD S) c i = va_up (dC S) (nD S) c j := hij
    unfold va_up at hij
    by_cases e : i = nD S <;> by_cases e2 : j = nD S
    · omega
    · rw [if_pos e, if_neg e2] at hij
      exact absurd hij.symm (hno j (by omega))
    · rw [if_neg e, if_pos e2] at hij
      exact absurd hij (hno i (by omega))
    · rw [if_neg e, if_neg e2] at hij
      exact g5 i j (by omega) (by omega) hij
theorem ok_sc {S : ST} (h : okS S) {i : Nat} (hi : i < nD S) : okS (sSc S i) := ok_rm (S := pM S (upd (upd (sM S) 3 (sM S 3 + nI 1)) 4 (sM S 4 + nI (dP S i)))) (ok_pM (S := pM S (upd (sM S) 3 (sM S 3 + nI 1))) (ok_pM h (by decide) _) (by decide) _) hi
/-! the cells -/
/-- only the chart at hand has changed -/
def fr1 (w w' : WS) : Prop := (∀ k, k < 1 ∨ 11 < k → w'.1 k = w.1 k) ∧ w'.2 = w.2
theorem fr1_rf {w : WS} : fr1 w w := ⟨fun _ _ => rfl, rfl⟩
theorem fr1_tr {w w1 w2 : WS} (h : fr1 w w1) (h2 : fr1 w1 w2) : fr1 w w2 := ⟨fun k hk => (h2.1 k hk).trans (h.1 k hk), h2.2.trans h.2⟩
theorem fr1_cs {w w1 : WS} (h : fr1 w w1) {k : Nat} (hk : 1 ≤ k ∧ k ≤ 11) (f : Nat → Int32) : fr1 w (cs_ w1 k f) := ⟨fun j hj => (cs_ne w1 f (by omega)).trans (h.1 j hj), h.2⟩
theorem ch_own {S : ST} {w : WS} (h : chA S w 1) (c : Nat) (v : Int32) : chA (pO S (upd (sO S) c v)) (cs_ w 2 (upd (w.1 2) c v)) 1 := by
  obtain ⟨h1, h2⟩ := h
  refine ⟨fun c' hc' => ?_, h2⟩
  show upd (w.1 2) c v c' = upd (sO S) c v c'
  unfold upd
  split
  · rfl
  · exact h1 c' hc'
theorem ch_coin {S : ST} {w : WS} (h : chA S w 1) (k : Nat) (v : Int32) : chA (pC S (upd (sC S) k v)) (cs_ w 3 (upd (w.1 3) k v)) 1 := by
  obtain ⟨h1, h2, h3⟩ := h
  refine ⟨h1, fun c' hc' => ⟨?_, (h2 c' hc').2⟩, h3⟩
  show upd (w.1 3) k v c' = upd (sC S) k v c'
  unfold upd
  split
  · rfl
  · exact (h2 c' hc').1
theorem ch_won {S : ST} {w : WS} (h : chA S w 1) (k : Nat) (v : Int32) : chA (pW S (upd (sW S) k v)) (cs_ w 4 (upd (w.1 4) k v)) 1 := by
  obtain ⟨h1, h2, h3⟩ := h
  refine ⟨h1, fun c' hc' => ⟨(h2 c' hc').1, ?_, (h2 c' hc').2.2⟩, h3⟩
  show upd (w.1 4) k v c' = upd (sW S) k v c'
  unfold upd
  split
  · rfl
  · exact (h2 c' hc').2.1
theorem ch_lost {S : ST} {w : WS} (h : chA S w 1) (k : Nat) (v : Int32) : chA (pL S (upd (sL S) k v)) (cs_ w 5 (upd (w.1 5) k v)) 1 := by
  obtain ⟨h1, h2, h3⟩ := h
  refine ⟨h1, fun c' hc' => ⟨(h2 c' hc').1, (h2 c' hc').2.1, ?_⟩, h3⟩
  show upd (w.1 5) k v c' = upd (sL S) k v c'
  unfold upd
  split
  · rfl
  · exact (h2 c' hc').2.2
theorem ch_misc {S : ST} {w : WS} (h : chA S w 1) {j : Nat} (hj : j < 5) (v : Int32) : chA (pM S (upd (sM S) j v)) (cs_ w 1 (upd (w.1 1) (12 + j) v)) 1 := by
  obtain ⟨h1, h2, h3, h4, h5, h6, h7, h8, h9, h10, h11⟩ := h
  refine ⟨h1, h2, ?_, h4, ?_, h6, ?_⟩
  · show upd (w.1 1) (12 + j) v 10 = _
    unfold upd
    rw [if_neg (by omega)]
    exact h3
  · show upd (w.1 1) (12 + j) v 11 = _
    unfold upd
    rw [if_neg (by omega)]
    exact h5
  · show upd (w.1 1) (12 + j) v 12 = upd (sM S) j v 0 ∧ upd (w.1 1) (12 + j) v 13 = upd (sM S) j v 1 ∧ upd (w.1 1) (12 + j) v 14 = upd (sM S) j v 2 ∧ upd (w.1 1) (12 + j) v 15 = upd (sM S) j v 3 ∧ upd (w.1 1) (12 + j) v 16 = upd (sM S) j v 4
    unfold upd
    match j, hj with
    | 0, _ => simp [h8, h9, h10, h11]
    | 1, _ => simp [h7, h9, h10, h11]
    | 2, _ => simp [h7, h8, h10, h11]
    | 3, _ => simp [h7, h8, h9, h11]
    | 4, _ => simp [h7, h8, h9, h10]
/-- the dragons' rows moved up from place i to place t -/
def sf3 (w : WS) (i t : Nat) : WS := cs_ (cs_ (cs_ w 9 (shf (w.1 9) i t)) 10 (shf (w.1 10) i t)) 11 (shf (w.1 11) i t)
theorem ws_eq {w w' : WS} (h : ∀ k, w.1 k = w'.1 k) (h2 : w.2 = w'.2) : w = w' := Prod.ext (funext h) h2
theorem sf3_0 (w : WS) (i : Nat) : sf3 w i i = w := by
  apply ws_eq
  · intro k
    simp only [sf3, cs_, shf_0]
    by_cases h1 : k = 11
    · simp [h1]
    · by_cases h2 : k = 10
      · simp [h2]
      · by_cases h3 : k = 9
        · simp [h3]
        · simp [h1, h2, h3]
  · rfl
theorem sf3_step {w : WS} {i t : Nat} (h : i ≤ t) {A B C : Int32} (hA : A = w.1 9 (t + 1)) (hB : B = w.1 10 (t + 1)) (hC : C = w.1 11 (t + 1)) {f g k : Nat → Int32} (hf : f = upd (shf (w.1 9) i t) t A) (hg : g = upd (shf (w.1 10) i t) t B) (hk : k = upd (shf (w.1 11) i t) t C) : cs_ (cs_ (cs_ (sf3 w i t) 9 f) 10 g) 11 k = sf3 w i (t + 1) := by
  subst hA hB hC hf hg hk
  apply ws_eq
  · intro j
    simp only [sf3, cs_, shf_step _ h]
    by_cases h1 : j = 11
    · simp [h1]
    · by_cases h2 : j = 10
      · simp [h2]
      · by_cases h3 : j = 9
        · simp [h3]
        · simp [h1, h2, h3]
  · rfl
theorem sf3_9 (w : WS) (i t : Nat) : (sf3 w i t).1 9 = shf (w.1 9) i t := by simp [sf3, cs_]
theorem sf3_10 (w : WS) (i t : Nat) : (sf3 w i t).1 10 = shf (w.1 10) i t := by simp [sf3, cs_]
theorem sf3_11 (w : WS) (i t : Nat) : (sf3 w i t).1 11 = shf (w.1 11) i t := by simp [sf3, cs_]
theorem sf3_1 (w : WS) (i t : Nat) : (sf3 w i t).1 1 = w.1 1 := by simp [sf3, cs_]
def wRm (w : WS) (i n : Nat) : WS := cs_ (sf3 w i (n - 1)) 1 (upd (w.1 1) 11 (nI (n - 1)))
theorem ch_rm {S : ST} {w : WS} (h : chA S w 1) {i : Nat} (hi : i < nD S) : chA (sRm S i) (wRm w i (nD S)) 1 := by
  obtain ⟨h1, h2, h3, h4, h5, h6, h7⟩ := h
  have e9 : (wRm w i (nD S)).1 9 = shf (w.1 9) i (nD S - 1) := by simp [wRm, cs_, sf3_9]
  have e10 : (wRm w i (nD S)).1 10 = shf (w.1 10) i (nD S - 1) := by simp [wRm, cs_, sf3_10]
  have e11 : (wRm w i (nD S)).1 11 = shf (w.1 11) i (nD S - 1) := by simp [wRm, cs_, sf3_11]
  have e1 : (wRm w i (nD S)).1 1 = upd (w.1 1) 11 (nI (nD S - 1)) := by simp [wRm, cs_]
  have eo : ∀ k, k ≠ 1 → k ≠ 9 → k ≠ 10 → k ≠ 11 → (wRm w i (nD S)).1 k = w.1 k := fun k a b c d => by simp [wRm, cs_, sf3, a, b, c, d]
  refine ⟨fun c hc => by rw [eo _ (by decide) (by decide) (by decide) (by decide)]; exact h1 c hc, fun k hk => by rw [eo _ (by decide) (by decide) (by decide) (by decide), eo _ (by decide) (by decide) (by decide) (by decide), eo _ (by decide) (by decide) (by decide) (by decide)]; exact h2 k hk, ?_, fun j hj => by rw [eo _ (by decide) (by decide) (by decide) (by decide), eo _ (by decide) (by decide) (by decide) (by decide), eo _ (by decide) (by decide) (by decide) (by decide)]; exact h4 j hj, ?_, fun j hj => ?_, ?_⟩
  · rw [e1]; exact h3
  · rw [e1]; rfl
  · have hj : j < nD S - 1 := hj
    show (wRm w i (nD S)).1 9 j = nI (rmv (dC S) i j) ∧ (wRm w i (nD S)).1 10 j = nI (rmv (dP S) i j) ∧ (wRm w i (nD S)).1 11 j = nI (rmv (dQ S) i j)
    rw [e9, e10, e11, shf_rmv _ hj, shf_rmv _ hj, shf_rmv _ hj]
    unfold rmv
    split
    · exact h6 j (by omega)
    · exact h6 (j + 1) (by omega)
  · rw [e1]; exact h7
theorem fr1_rm {w : WS} {i n : Nat} : fr1 w (wRm w i n) := fr1_cs (fr1_cs (fr1_cs (fr1_cs fr1_rf (by decide) _) (by decide) _) (by decide) _) (by decide) _
/-- a world by another name -/
theorem ev_w {G : GX} {d b : Nat} {M : MT} {pc : Nat} {ls : List (Option Value)} {st : List Value} {w w' : WS} {Z : ZT} (h : w = w') (K : Ev G d b M pc ls st w' Z) : Ev G d b M pc ls st w Z := by rw [h]; exact K
