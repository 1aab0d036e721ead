/-! what the law's calls answer -/
section
variable {S : ST}
theorem nR_lt (hk : okS S) : nR S < 2 ^ 31 := by have := hk.2.1.1; omega
theorem nD_lt (hk : okS S) : nD S < 2 ^ 31 := by have := hk.2.2.1.1; omega
theorem lc_ro {r k : Nat} (hr : r < 4) (hk : k < 6) {cs : List Int32} : lc_ cs (qRo S (nI r) (nI k)) = roV S r k := by
  unfold qRo
  rw [ixN_y hr (by decide)]
  dsimp only
  rw [ixN_y hk (by decide)]
  rfl
theorem lc_ro6 {r : Nat} (hr : r < 4) {a b : Int32} : lc_ [a, b] (qRo S (nI r) (nI 6)) = b := by
  unfold qRo
  rw [ixN_y hr (by decide)]
  dsimp only
  rw [ixN_n (n := 6) (k := 6) (by decide) (by decide)]
  rfl
theorem lc_rv (ho : okS S) {i k : Nat} (hi : i < nR S) (hk : k < 6) {cs : List Int32} : lc_ cs (qRv S (nI i) (nI k)) = rvV S i k := by
  unfold qRv
  rw [ixN_y hi (nR_lt ho)]
  dsimp only
  rw [ixN_y hk (by decide)]
  rfl
theorem lc_rv6 (ho : okS S) {i : Nat} (hi : i < nR S) {a b : Int32} : lc_ [a, b] (qRv S (nI i) (nI 6)) = b := by
  unfold qRv
  rw [ixN_y hi (nR_lt ho)]
  dsimp only
  rw [ixN_n (n := 6) (k := 6) (by decide) (by decide)]
  rfl
theorem lc_rvn (ho : okS S) {y a b : Int32} : lc_ [a, b] (qRv S (nI (nR S)) y) = a := by
  unfold qRv
  rw [ixN_n (Nat.le_refl _) (nR_lt ho)]
  rfl
theorem lc_ra (ho : okS S) {i p : Nat} (hi : i < nR S) (hp : p ≤ rN S i) {cs : List Int32} : lc_ cs (qRa S (nI i) (nI p)) = nI (rP S i p) := by
  have h12 := (ho.2.1.2 i hi).2.2.1
  unfold qRa
  rw [ixN_y hi (nR_lt ho)]
  dsimp only
  rw [ixN_y (show p < rN S i + 1 by omega) (by omega)]
  rfl
theorem lc_raE (ho : okS S) {i : Nat} (hi : i < nR S) {a b : Int32} : lc_ [a, b] (qRa S (nI i) (nI (rN S i + 1))) = b := by
  have h12 := (ho.2.1.2 i hi).2.2.1
  unfold qRa
  rw [ixN_y hi (nR_lt ho)]
  dsimp only
  rw [ixN_n (Nat.le_refl _) (by omega)]
  rfl
theorem lc_raM (ho : okS S) {i : Nat} (hi : i < nR S) {a b : Int32} : lc_ [a, b] (qRa S (nI i) (-1)) = b := by
  unfold qRa
  rw [ixN_y hi (nR_lt ho)]
  dsimp only
  rw [ixN_m (by decide)]
  rfl
theorem lc_ran (ho : okS S) {y a b : Int32} : lc_ [a, b] (qRa S (nI (nR S)) y) = a := by
  unfold qRa
  rw [ixN_n (Nat.le_refl _) (nR_lt ho)]
  rfl
theorem lc_dr (ho : okS S) {i k : Nat} (hi : i < nD S) (hk : k < 3) {cs : List Int32} : lc_ cs (qDr S (nI i) (nI k)) = drV S i k := by
  unfold qDr
  rw [ixN_y hi (nD_lt ho)]
  dsimp only
  rw [ixN_y hk (by decide)]
  rfl
theorem lc_dr3 (ho : okS S) {i : Nat} (hi : i < nD S) {a b : Int32} : lc_ [a, b] (qDr S (nI i) (nI 3)) = b := by
  unfold qDr
  rw [ixN_y hi (nD_lt ho)]
  dsimp only
  rw [ixN_n (n := 3) (k := 3) (by decide) (by decide)]
  rfl
theorem lc_drn (ho : okS S) {y a b : Int32} : lc_ [a, b] (qDr S (nI (nD S)) y) = a := by
  unfold qDr
  rw [ixN_n (Nat.le_refl _) (nD_lt ho)]
  rfl
theorem lc_we (ho : okS S) {i : Nat} (hi : i < nR S) {cs : List Int32} : lc_ cs (qWe S (nI i)) = nI (wgt S i) := by
  unfold qWe
  rw [ixN_y hi (nR_lt ho)]
  rfl
theorem lc_wen (ho : okS S) {a : Int32} : lc_ [a] (qWe S (nI (nR S))) = a := by
  unfold qWe
  rw [ixN_n (Nat.le_refl _) (nR_lt ho)]
  rfl
theorem lc_bo {r n : Nat} (hr : r < 4) (hn : n < 4) {cs : List Int32} : lc_ cs (qBo S (nI r) (nI n)) = nI (if r = n then 0 else prs S (nI r) (nI n) + prs S (nI n) (nI r)) := by
  unfold qBo
  rw [ixN_y hr (by decide)]
  dsimp only
  rw [ixN_y hn (by decide)]
  dsimp only [lc_]
  by_cases h : r = n
  · rw [if_pos h, if_pos (show nI r = nI n by rw [h])]
    rfl
  · rw [if_neg h, if_neg (show ¬ nI r = nI n from fun q => h ((nI_eq (by omega) (by omega)).mp q))]
    rfl
theorem lc_bo4 {r : Nat} (hr : r < 4) {a : Int32} : lc_ [a] (qBo S (nI r) (nI 4)) = a := by
  unfold qBo
  rw [ixN_y hr (by decide)]
  dsimp only
  rw [ixN_n (n := 4) (k := 4) (by decide) (by decide)]
  rfl
theorem lc_ar {r : Nat} (hr : r < 4) {cs : List Int32} : lc_ cs (qAr S (nI r)) = nI (sbs S (nI r)) := by
  unfold qAr
  rw [ixN_y hr (by decide)]
  rfl
theorem lc_ar4 {a : Int32} : lc_ [a] (qAr S (nI 4)) = a := by
  unfold qAr
  rw [ixN_n (n := 4) (k := 4) (by decide) (by decide)]
  rfl
theorem lc_pa {r : Nat} (hr : r < 4) {cs : List Int32} : lc_ cs (qPa S (nI r)) = nI (ccS S (nI r)) := by
  unfold qPa
  rw [ixN_y hr (by decide)]
  rfl
theorem lc_paM {a : Int32} : lc_ [a] (qPa S (-1)) = a := by
  unfold qPa
  rw [ixN_m (by decide)]
  rfl
theorem lc_sh {r : Nat} (hr : r < 4) {cs : List Int32} : lc_ cs (qSh S (nI r)) = nI (ct (canB S (nI r)) 64) := by
  unfold qSh
  rw [ixN_y hr (by decide)]
  rfl
theorem lc_sh4 {a : Int32} : lc_ [a] (qSh S (nI 4)) = a := by
  unfold qSh
  rw [ixN_n (n := 4) (k := 4) (by decide) (by decide)]
  rfl
theorem lc_cs {c r : Nat} (hc : c < 64) (hr : r < 4) {cs : List Int32} : lc_ cs (qCs S (nI c) (nI r)) = bI (canB S (nI r) c) := by
  unfold qCs
  rw [ixN_y hc (by decide)]
  dsimp only
  rw [ixN_y hr (by decide)]
  rfl
theorem lc_cs64 {y a : Int32} : lc_ [a] (qCs S (nI 64) y) = a := by
  unfold qCs
  rw [ixN_n (n := 64) (k := 64) (by decide) (by decide)]
  rfl
theorem lc_cs4 {c : Nat} (hc : c < 64) {a : Int32} : lc_ [a] (qCs S (nI c) (nI 4)) = a := by
  unfold qCs
  rw [ixN_y hc (by decide)]
  dsimp only
  rw [ixN_n (n := 4) (k := 4) (by decide) (by decide)]
  rfl
theorem lc_at64 {a : Int32} : lc_ [a] (qAt S (nI 64)) = a := by
  unfold qAt
  rw [ixN_n (n := 64) (k := 64) (by decide) (by decide)]
  rfl
theorem lc_li {b : Bool} {c : Nat} (h0 : 0 < c) (hc : c < 8) {cs : List Int32} : lc_ cs (qLi S b (nI c)) = nI (lys S b c) := by
  unfold qLi
  rw [ixN_y hc (by decide)]
  dsimp only
  rw [if_neg (by omega)]
  rfl
theorem lc_li0 {b : Bool} {a : Int32} : lc_ [a] (qLi S b (nI 0)) = a := by
  unfold qLi
  rw [ixN_y (n := 8) (k := 0) (by decide) (by decide)]
  dsimp only
  rw [if_pos rfl]
  rfl
theorem lc_li8 {b : Bool} {a : Int32} : lc_ [a] (qLi S b (nI 8)) = a := by
  unfold qLi
  rw [ixN_n (n := 8) (k := 8) (by decide) (by decide)]
  rfl
theorem lc_bs {a : Int32} : lc_ [a] (qBs S) = if nR S = 0 then a else nI (bst (awr S) 9) := by
  unfold qBs
  split <;> rfl
theorem sA_i {A : AS} {k : Nat} (hk : k < 11) : spAcc A (nI k) = ((0, acV A k), A) := by
  unfold spAcc
  rw [ixN_y hk (by decide)]
end
