/-! sums: coins, sides -/
theorem sm_up {f : Nat → Nat} {a x n : Nat} (h : a < n) : sm (va_up f a x) n + f a = sm f n + x := by
  induction n with
  | zero => exact absurd h (Nat.not_lt_zero _)
  | succ n ih =>
    rw [sm_s, sm_s]
    by_cases e : a = n
    · subst e
      rw [sm_congr (f := va_up f a x) (g := f) (n := a) (fun i hi => by unfold va_up; rw [if_neg (by omega)])]
      rw [show va_up f a x a = x by unfold va_up; rw [if_pos rfl]]
      omega
    · have := ih (by omega)
      rw [show va_up f a x n = f n by unfold va_up; rw [if_neg (fun q => e q.symm)]]
      omega
theorem sm_ap {f : Nat → Nat} {x n : Nat} : sm (va_up f n x) (n + 1) = sm f n + x := by
  rw [sm_s, sm_congr (f := va_up f n x) (g := f) (n := n) (fun i hi => by unfold va_up; rw [if_neg (by omega)])]
  rw [show va_up f n x n = x by unfold va_up; rw [if_pos rfl]]
theorem sm_rm {f : Nat → Nat} {i n : Nat} (h : i < n) : sm (rmv f i) (n - 1) + f i = sm f n := by
  induction n with
  | zero => exact absurd h (Nat.not_lt_zero _)
  | succ n ih =>
    show sm (rmv f i) n + f i = sm f n + f n
    by_cases e : i = n
    · subst e
      rw [sm_congr (f := rmv f i) (g := f) (n := i) (fun j hj => by unfold rmv; rw [if_pos hj])]
    · have := ih (by omega)
      obtain ⟨k, rfl⟩ : ∃ k, n = k + 1 := ⟨n - 1, by omega⟩
      rw [sm_s, show rmv f i k = f (k + 1) by unfold rmv; rw [if_neg (by omega)]]
      simp only [Nat.add_sub_cancel] at this
      omega
theorem sm_ad {f g : Nat → Nat} {n : Nat} : sm (fun c => f c + g c) n = sm f n + sm g n := by
  induction n with
  | zero => rfl
  | succ n ih => rw [sm_s, sm_s, sm_s, ih]; omega
theorem sm_spl {f : Nat → Nat} {s n : Nat} : sm f (s + n) = sm f s + sm (fun c => f (s + c)) n := by
  induction n with
  | zero => rfl
  | succ n ih => rw [← Nat.add_assoc, sm_s, sm_s, ih]; omega
theorem sm_0 {f : Nat → Nat} {n : Nat} (h : ∀ i, i < n → f i = 0) : sm f n = 0 := by
  induction n with
  | zero => rfl
  | succ n ih => rw [sm_s, ih (fun i hi => h i (by omega)), h n (by omega)]
theorem sm_ct {p : Nat → Bool} {n k : Nat} : sm (fun c => if p c = true then k else 0) n = k * ct p n := by
  induction n with
  | zero => rfl
  | succ n ih =>
    rw [sm_s, ih, ct_s]
    split
    · rw [Nat.mul_add, Nat.mul_one]
    · rfl
/-- f, s places up, is g -/
theorem sm_sh {f g : Nat → Nat} {s n : Nat} (h0 : ∀ c, c < s → f c = 0) (h1 : ∀ c, c < n → f (s + c) = g c) (h2 : ∀ c, c < s → g (n + c) = 0) : sm f (s + n) = sm g (s + n) := by
  rw [sm_spl, sm_0 h0, Nat.zero_add, sm_congr h1, Nat.add_comm s n, sm_spl, sm_0 h2]
  rfl
def eW (S : ST) (r n : Int32) (d c : Nat) : Nat := if sO S c = r ∧ oo (sO S) (nb c d) = n then 1 else 0
def pr4 (S : ST) (r n : Int32) : Nat := sm (fun c => eW S r n 0 c + eW S r n 1 c + eW S r n 2 c + eW S r n 3 c) 64
theorem eW_0 {S : ST} {r n : Int32} {d c : Nat} (hn : n ≠ -1) (h : nb c d = none) : eW S r n d c = 0 := by
  unfold eW
  rw [h]
  rw [if_neg]
  rintro ⟨-, q⟩
  exact hn q.symm
theorem eW_1 {S : ST} {r n : Int32} {d e c k : Nat} (h : nb c d = some k) (h2 : nb k e = some c) : eW S r n d c = eW S n r e k := by
  unfold eW
  rw [h, h2]
  show (if sO S c = r ∧ sO S k = n then 1 else 0) = (if sO S k = n ∧ sO S c = r then 1 else 0)
  by_cases q : sO S c = r ∧ sO S k = n
  · rw [if_pos q, if_pos ⟨q.2, q.1⟩]
  · rw [if_neg q, if_neg (fun z => q ⟨z.2, z.1⟩)]
theorem eW_31 {S : ST} {r n : Int32} (hr : r ≠ -1) (hn : n ≠ -1) : sm (eW S r n 3) 64 = sm (eW S n r 1) 64 := by
  refine sm_sh (s := 1) (n := 63) (fun c hc => ?_) (fun c hc => ?_) (fun c hc => ?_)
  · obtain rfl : c = 0 := by omega
    exact eW_0 hn rfl
  · by_cases e : c % 8 < 7
    · exact eW_1 (show nb (1 + c) 3 = some c by unfold nb; simp; omega) (show nb c 1 = some (1 + c) by unfold nb; simp; omega)
    · rw [eW_0 hn (show nb (1 + c) 3 = none by unfold nb; simp; omega), eW_0 hr (show nb c 1 = none by unfold nb; simp; omega)]
  · obtain rfl : c = 0 := by omega
    exact eW_0 hr rfl
theorem eW_02 {S : ST} {r n : Int32} (hr : r ≠ -1) (hn : n ≠ -1) : sm (eW S r n 0) 64 = sm (eW S n r 2) 64 := by
  refine sm_sh (s := 8) (n := 56) (fun c hc => ?_) (fun c hc => ?_) (fun c hc => ?_)
  · exact eW_0 hn (by unfold nb; simp; omega)
  · exact eW_1 (show nb (8 + c) 0 = some c by unfold nb; simp) (show nb c 2 = some (8 + c) by unfold nb; simp; omega)
  · exact eW_0 hr (by unfold nb; simp)
theorem prf_eW {S : ST} {r n : Int32} : prs S r n = sm (eW S r n 1) 64 + sm (eW S r n 2) 64 := by
  unfold prs
  rw [← sm_ad]
  refine sm_congr (fun c _ => ?_)
  unfold prf eW
  by_cases e : sO S c = r
  · simp [e]
  · simp [e]
theorem pr4_eq {S : ST} {r n : Int32} (hr : r ≠ -1) (hn : n ≠ -1) : pr4 S r n = prs S r n + prs S n r := by
  unfold pr4
  rw [sm_ad (f := fun c => eW S r n 0 c + eW S r n 1 c + eW S r n 2 c) (g := eW S r n 3), sm_ad (f := fun c => eW S r n 0 c + eW S r n 1 c) (g := eW S r n 2), sm_ad (f := eW S r n 0) (g := eW S r n 1), eW_31 hr hn, eW_02 hr hn, prf_eW, prf_eW]
  omega
theorem sbs_eq {S : ST} {r : Int32} : sbs S r + pr4 S r r = 4 * cO S r := by
  unfold sbs pr4 cO
  rw [← sm_ad, ← sm_ct]
  refine sm_congr (fun c _ => ?_)
  unfold sbf eW
  by_cases e : sO S c = r
  · simp only [e, if_true, true_and, ct, beq_self_eq_true]
    by_cases h0 : oo (sO S) (nb c 0) = r <;> by_cases h1 : oo (sO S) (nb c 1) = r <;> by_cases h2 : oo (sO S) (nb c 2) = r <;> by_cases h3 : oo (sO S) (nb c 3) = r <;> simp [h0, h1, h2, h3]
  · have e2 : (sO S c == r) = false := beq_eq_false_iff_ne.mpr e
    simp [e]
theorem less_eq {S : ST} {r : Int32} (hr : r ≠ -1) : nI 4 * nI (cO S r) - nI 2 * nI (prs S r r) = nI (sbs S r) := by
  have h1 := sbs_eq (S := S) (r := r)
  have h2 := pr4_eq (S := S) hr hr
  rw [pk_mul, pk_mul, pk_sub (by omega)]
  congr 1
  omega
/-! coins -/
def cnS (S : ST) : Prop := ∃ (cn wn ln : Nat → Nat) (lc : Nat), (∀ k, k < 4 → sC S k = nI (cn k) ∧ sW S k = nI (wn k) ∧ sL S k = nI (ln k)) ∧ sM S 4 = nI lc ∧ sm cn 4 + lc + sm (dP S) (nD S) = 400 ∧ sm wn 4 = sm ln 4
theorem cn_le {f : Nat → Nat} {n k : Nat} (h : k < n) : f k ≤ sm f n := by
  induction n with
  | zero => exact absurd h (Nat.not_lt_zero _)
  | succ n ih =>
    rw [sm_s]
    by_cases e : k = n
    · subst e; omega
    · have := ih (by omega); omega
theorem up_nI {f : Nat → Int32} {g : Nat → Nat} {a x : Nat} {v : Int32} (hv : v = nI x) {k : Nat} (h : f k = nI (g k)) : upd f a v k = nI (va_up g a x k) := by
  unfold upd va_up
  split
  · exact hv
  · exact h
theorem cn_rf {S : ST} (hk : okS S) (h : cnS S) {i : Nat} (hi : i < nD S) : cnS (sRf S i) := by
  obtain ⟨cn, wn, ln, lc, h1, h2, h3, h4⟩ := h
  have hq := (hk.2.2.1.2.1 i hi).2.2.2
  refine ⟨va_up cn (dQ S i) (cn (dQ S i) + dP S i), wn, ln, lc, fun k hk => ⟨?_, (h1 k hk).2⟩, h2, ?_, h4⟩
  · show upd (sC S) (dQ S i) (sC S (dQ S i) + nI (dP S i)) k = _
    exact up_nI (by rw [(h1 _ hq).1, nI_add]) (h1 k hk).1
  · show sm (va_up cn (dQ S i) (cn (dQ S i) + dP S i)) 4 + lc + sm (rmv (dP S) i) (nD S - 1) = 400
    have e1 := sm_up (f := cn) (x := cn (dQ S i) + dP S i) hq
    have e2 := sm_rm (f := dP S) hi
    omega
theorem cn_gv {S : ST} (hk : okS S) (h : cnS S) (c : Nat) {v : Int32} (hv : r5 v) : cnS (sGv S c v) := by
  unfold sGv
  cases e : dOn S c with
  | none => exact h
  | some i => exact cn_rf (S := pO S (upd (sO S) c v)) (ok_pO hk hv) h (dOn_lt e).1
theorem cn_do {S : ST} (hk : okS S) (h : cnS S) {q : Cmd} (ho : okC q) (ht : thC S q = true) (hg : grC S q = 0) : cnS (cdo S q) := by
  rcases q with ⟨c, v⟩ | ⟨c, r⟩ | m | ⟨c, t, l, ds⟩ | i | ⟨c, p⟩ | i
  · exact cn_gv hk h c ho.2
  · have hx : c < 64 := of_decide_eq_true ht
    have hne : sO S c ≠ -1 := by
      intro q
      have hg : (if shS S c (nI r) = 0 ∨ shS S c (nI r) = 1 then shS S c (nI r) else 2) = 0 := hg
      have h3 : shS S c (nI r) = 3 ∨ shS S c (nI r) = 1 := by
        unfold shS
        by_cases e : sO S c = nI r
        · rw [if_pos e]; exact Or.inr rfl
        · rw [if_neg e, if_pos q]; exact Or.inl rfl
      rcases h3 with h3 | h3
      · rw [h3] at hg; exact absurd hg (by decide)
      · rw [h3] at hg; exact absurd hg (by decide)
    obtain ⟨a, ha, hoa, hon⟩ := ow_ hk hx hne
    obtain ⟨cn, wn, ln, lc, h1, h2, h3, h4⟩ := cn_gv hk h c (v := nI r) (Or.inr ⟨r, ho.2, rfl⟩)
    have e0 : cdo S (.inr (.inl (c, r))) = sSh S c a r := by rw [← hon]; rfl
    rw [e0]
    have hr := ho.2
    refine ⟨cn, va_up wn r (wn r + 1), va_up ln a (ln a + 1), lc, fun k hk => ⟨(h1 k hk).1, ?_, ?_⟩, h2, h3, ?_⟩
    · show upd (sW (sGv S c (nI r))) r (sW (sGv S c (nI r)) r + nI 1) k = _
      exact up_nI (by rw [(h1 r hr).2.1, nI_add]) (h1 k hk).2.1
    · show upd (sL (sGv S c (nI r))) a (sL (sGv S c (nI r)) a + nI 1) k = _
      exact up_nI (by rw [(h1 a ha).2.2, nI_add]) (h1 k hk).2.2
    · have e1 := sm_up (f := wn) (x := wn r + 1) hr
      have e2 := sm_up (f := ln) (x := ln a + 1) ha
      omega
  · exact h
  · exact h
  · exact h
  · have hx := (th_c ht).1
    have hg : drS S c p = 0 := hg
    have hne : sO S c ≠ -1 := by
      intro q
      unfold drS at hg
      rw [if_pos q] at hg; exact absurd hg (by decide)
    obtain ⟨a, ha, hoa, hon⟩ := ow_ hk hx hne
    obtain ⟨cn, wn, ln, lc, h1, h2, h3, h4⟩ := h
    have hlt : p ≤ cn a := by
      unfold drS at hg
      rw [if_neg hne] at hg
      by_cases g2 : (dOn S c).isSome = true
      · rw [if_pos g2] at hg; exact absurd hg (by decide)
      · rw [if_neg g2] at hg
        by_cases g3 : 5 ≤ nD S
        · rw [if_pos g3] at hg; exact absurd hg (by decide)
        · rw [if_neg g3] at hg
          by_cases g4 : sC S (oN_ (sO S c)) < nI p
          · rw [if_pos g4] at hg; exact absurd hg (by decide)
          · rw [hon, (h1 a ha).1] at g4
            have := cn_le (f := cn) (n := 4) ha
            have hp : p < 100 := ho.2
            rcases Nat.lt_or_ge (cn a) p with g | g
            · exact absurd ((pk_lt' (by omega) (by omega)).mpr g) g4
            · exact g
    have e0 : cdo S (.inr (.inr (.inr (.inr (.inr (.inl (c, p))))))) = sAD S c p a := by rw [← hon]; rfl
    rw [e0]
    refine ⟨va_up cn a (cn a - p), wn, ln, lc, fun k hk => ⟨?_, (h1 k hk).2⟩, h2, ?_, h4⟩
    · show upd (sC S) a (sC S a - nI p) k = _
      exact up_nI (by rw [(h1 a ha).1, pk_sub hlt]) (h1 k hk).1
    · show sm (va_up cn a (cn a - p)) 4 + lc + sm (va_up (dP S) (nD S) p) (nD S + 1) = 400
      have e1 := sm_up (f := cn) (x := cn a - p) ha
      rw [sm_ap]
      omega
  · have hi : i < nD S := of_decide_eq_true ht
    obtain ⟨cn, wn, ln, lc, h1, h2, h3, h4⟩ := h
    refine ⟨cn, wn, ln, lc + dP S i, h1, ?_, ?_, h4⟩
    · show sM S 4 + nI (dP S i) = _
      rw [h2, nI_add]
    · show sm cn 4 + (lc + dP S i) + sm (rmv (dP S) i) (nD S - 1) = 400
      have e2 := sm_rm (f := dP S) hi
      omega
theorem al_nI {S : ST} {cn : Nat → Nat} (h : ∀ k, k < 4 → sC S k = nI (cn k)) : al_S S 4 = nI (sm cn 4) := by
  show nI 0 + sC S 0 + sC S 1 + sC S 2 + sC S 3 = _
  rw [h 0 (by decide), h 1 (by decide), h 2 (by decide), h 3 (by decide), nI_add, nI_add, nI_add, nI_add]
  rfl
theorem df_s (A B a b : Nat) : (nI A - nI B) + (nI a - nI b) = nI (A + a) - nI (B + b) := by
  rw [← nI_add, ← nI_add]
  simp only [Int32.sub_eq_add_neg, Int32.neg_add]
  ac_rfl
