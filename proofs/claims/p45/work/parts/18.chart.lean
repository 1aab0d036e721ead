/-! the chart read -/
theorem nI_lt1 {k : Nat} (h : 1 ≤ k) (hk : k < 2 ^ 31) : ¬ nI k < nI 1 := nI_nlt h hk
theorem nI_gtf {a b : Nat} (h : a ≤ b) (hb : b < 2 ^ 31) : ¬ nI b < nI a := nI_nlt h hb
theorem rem8 {k : Nat} (h : k < 64) : nI k - nI k / nI 8 * nI 8 = nI (k % 8) := pk_rem (by omega) (by decide) (by decide)
theorem pk_lt' {a b : Nat} (ha : a < 2 ^ 31) (hb : b < 2 ^ 31) : nI a < nI b ↔ a < b := nI_ltI ha hb
theorem pk_le' {a b : Nat} (ha : a < 2 ^ 31) (hb : b < 2 ^ 31) : nI a ≤ nI b ↔ a ≤ b := nI_leI ha hb
theorem gt0 {k : Nat} (h : 0 < k) (hk : k < 2 ^ 31) : 0 < nI k := by rw [Int32.lt_iff_toInt_lt, nI_toInt hk, Int32.toInt_zero]; omega
theorem le0 {k : Nat} (hk : k < 2 ^ 31) : nI k ≤ 0 ↔ k = 0 := by rw [Int32.le_iff_toInt_le, nI_toInt hk, Int32.toInt_zero]; omega
theorem oI_none {o : Option Nat} (h : ∀ k, o = some k → k < 2 ^ 31) : oI o = -1 ↔ o = none := by
  cases o with
  | none => simp [oI]
  | some k => simp only [oI, reduceCtorEq, iff_false]; exact nI_m1 (h k rfl)
theorem find_none {n : Nat} {p : Nat → Bool} (h : ∀ j, j < n → p j = false) : (List.range n).find? p = none := by
  rw [List.find?_eq_none]
  intro x hx
  rw [h x (List.mem_range.mp hx)]
  decide
theorem find_some {n i : Nat} {p : Nat → Bool} (hi : i < n) (h : p i = true) (hb : ∀ j, j < i → p j = false) : (List.range n).find? p = some i := by
  have e : List.range n = List.range i ++ (i :: (List.range (n - i - 1)).map (fun j => i + 1 + j)) := by
    have h1 : n = i + (1 + (n - i - 1)) := by omega
    conv => lhs; rw [h1, List.range_add]
    congr 1
    rw [Nat.add_comm 1, List.range_succ_eq_map]
    simp only [List.map_cons, List.map_map, Nat.add_zero, List.cons.injEq, true_and]
    apply List.map_congr_left
    intro a _
    simp only [Function.comp_apply]
    omega
  rw [e, List.find?_append, find_none hb]
  simp [h]
set_option maxRecDepth 4000 in
theorem qX11_isScale_y {G : GX} {w : WS} {k : Nat} (hl : 1 ≤ k) (hk : k ≤ 9) : Big G 1 0 mX11_isScale [.int (nI k)] w (.inl (some (.int (bI true)))) w := by
  refine big_of (by decide +kernel) (Nat.le_of_ble_eq_true rfl) ?_
  show Ev G 1 0 mX11_isScale 0 [some (.int (nI k))] [] w _
  refine ev_iload_n dX11_isScale_0 rfl ?_
  refine ev_iconst dX11_isScale_1 ic1 ?_
  refine ev_icmp_lt_f (tgt := 15) dX11_isScale_2 (by decide) (nI_lt1 hl (by omega)) ?_
  refine ev_iload_n dX11_isScale_5 rfl ?_
  refine ev_bipush (v := nI 9) dX11_isScale_6 (by decide) ?_
  refine ev_icmp_gt_f (tgt := 15) dX11_isScale_8 (by decide) (nI_gtf hk (by decide)) ?_
  refine ev_iconst dX11_isScale_11 ic1 ?_
  refine ev_goto (tgt := 16) dX11_isScale_12 (by decide) ?_
  exact ev_iret dX11_isScale_16 rfl (by decide) rfl rfl
set_option maxRecDepth 4000 in
theorem qX11_isScale_n {G : GX} {w : WS} {x : Int32} (hx : x < nI 1 ∨ nI 9 < x) : Big G 1 0 mX11_isScale [.int x] w (.inl (some (.int (bI false)))) w := by
  refine big_of (by decide +kernel) (Nat.le_of_ble_eq_true rfl) ?_
  show Ev G 1 0 mX11_isScale 0 [some (.int x)] [] w _
  refine ev_iload_n dX11_isScale_0 rfl ?_
  refine ev_iconst dX11_isScale_1 ic1 ?_
  refine ev_icmp_lt (tgt := 15) dX11_isScale_2 (by decide) (fun hc2 => ?_) (fun hc2 => ?_)
  · refine ev_iconst dX11_isScale_15 ic0 ?_
    exact ev_iret dX11_isScale_16 rfl (by decide) rfl rfl
  · refine ev_iload_n dX11_isScale_5 rfl ?_
    refine ev_bipush (v := nI 9) dX11_isScale_6 (by decide) ?_
    refine ev_icmp_gt (tgt := 15) dX11_isScale_8 (by decide) (fun hc8 => ?_) (fun hc8 => ?_)
    · refine ev_iconst dX11_isScale_15 ic0 ?_
      exact ev_iret dX11_isScale_16 rfl (by decide) rfl rfl
    · exact absurd hx (fun q => q.elim hc2 hc8)
set_option maxRecDepth 4000 in
theorem qX11_isPrice_y {G : GX} {w : WS} {k : Nat} (hl : 1 ≤ k) (hk : k ≤ 50) : Big G 1 0 mX11_isPrice [.int (nI k)] w (.inl (some (.int (bI true)))) w := by
  refine big_of (by decide +kernel) (Nat.le_of_ble_eq_true rfl) ?_
  show Ev G 1 0 mX11_isPrice 0 [some (.int (nI k))] [] w _
  refine ev_iload_n dX11_isPrice_0 rfl ?_
  refine ev_iconst dX11_isPrice_1 ic1 ?_
  refine ev_icmp_lt_f (tgt := 15) dX11_isPrice_2 (by decide) (nI_lt1 hl (by omega)) ?_
  refine ev_iload_n dX11_isPrice_5 rfl ?_
  refine ev_bipush (v := nI 50) dX11_isPrice_6 (by decide) ?_
  refine ev_icmp_gt_f (tgt := 15) dX11_isPrice_8 (by decide) (nI_gtf hk (by decide)) ?_
  refine ev_iconst dX11_isPrice_11 ic1 ?_
  refine ev_goto (tgt := 16) dX11_isPrice_12 (by decide) ?_
  exact ev_iret dX11_isPrice_16 rfl (by decide) rfl rfl
set_option maxRecDepth 4000 in
theorem qX11_isPrice_n {G : GX} {w : WS} {x : Int32} (hx : x < nI 1 ∨ nI 50 < x) : Big G 1 0 mX11_isPrice [.int x] w (.inl (some (.int (bI false)))) w := by
  refine big_of (by decide +kernel) (Nat.le_of_ble_eq_true rfl) ?_
  show Ev G 1 0 mX11_isPrice 0 [some (.int x)] [] w _
  refine ev_iload_n dX11_isPrice_0 rfl ?_
  refine ev_iconst dX11_isPrice_1 ic1 ?_
  refine ev_icmp_lt (tgt := 15) dX11_isPrice_2 (by decide) (fun hc2 => ?_) (fun hc2 => ?_)
  · refine ev_iconst dX11_isPrice_15 ic0 ?_
    exact ev_iret dX11_isPrice_16 rfl (by decide) rfl rfl
  · refine ev_iload_n dX11_isPrice_5 rfl ?_
    refine ev_bipush (v := nI 50) dX11_isPrice_6 (by decide) ?_
    refine ev_icmp_gt (tgt := 15) dX11_isPrice_8 (by decide) (fun hc8 => ?_) (fun hc8 => ?_)
    · refine ev_iconst dX11_isPrice_15 ic0 ?_
      exact ev_iret dX11_isPrice_16 rfl (by decide) rfl rfl
    · exact absurd hx (fun q => q.elim hc2 hc8)
set_option maxRecDepth 4000 in
theorem qX11_beside_0 {G : GX} {w : WS} {k : Nat} (hk : k < 64) : Big G 2 0 mX11_beside [.int (nI k), .int (nI 0)] w (.inl (some (.int (oI (nb k 0))))) w := by
  refine big_of (by decide +kernel) (Nat.le_of_ble_eq_true rfl) ?_
  show Ev G 2 0 mX11_beside 0 [some (.int (nI k)), some (.int (nI 0))] [] w _
  refine ev_iload_n dX11_beside_0 rfl ?_
  refine ev_callS kX11_382 (qX11_isCell_y hk) dX11_beside_1 rfl (by decide) (by decide) rfl ?_
  refine ev_if_ne_t (tgt := 9) dX11_beside_4 (by decide) (by decide) ?_
  refine ev_iload_n dX11_beside_9 rfl ?_
  refine ev_tableIn (tgt := 40) (off := 30) dX11_beside_10 (by decide) (by decide) (by decide +kernel) (by decide) ?_
  refine ev_iload_n dX11_beside_40 rfl ?_
  refine ev_bipush (v := nI 8) dX11_beside_41 (by decide) ?_
  refine ev_icmp_lt (tgt := 53) dX11_beside_43 (by decide) (fun hc43 => ?_) (fun hc43 => ?_)
  · have e : nb k 0 = none := by have := (pk_lt' (by omega) (by decide)).mp hc43; simp [nb]; omega
    refine ev_iconst dX11_beside_53 icm1 ?_
    exact ev_iret dX11_beside_54 rfl rfl (by rw [e] <;> rfl) rfl
  · have h8 : 8 ≤ k := by have := (not_congr (pk_lt' (by omega) (by decide))).mp hc43; omega
    have e : nb k 0 = some (k - 8) := by simp [nb, h8]
    refine ev_iload_n dX11_beside_46 rfl ?_
    refine ev_bipush (v := nI 8) dX11_beside_47 (by decide) ?_
    refine ev_isub dX11_beside_49 ?_
    rw [pk_sub h8]
    refine ev_goto (tgt := 54) dX11_beside_50 (by decide) ?_
    exact ev_iret dX11_beside_54 rfl rfl (by rw [e] <;> rfl) rfl
set_option maxRecDepth 4000 in
theorem qX11_beside_1 {G : GX} {w : WS} {k : Nat} (hk : k < 64) : Big G 2 0 mX11_beside [.int (nI k), .int (nI 1)] w (.inl (some (.int (oI (nb k 1))))) w := by
  refine big_of (by decide +kernel) (Nat.le_of_ble_eq_true rfl) ?_
  show Ev G 2 0 mX11_beside 0 [some (.int (nI k)), some (.int (nI 1))] [] w _
  refine ev_iload_n dX11_beside_0 rfl ?_
  refine ev_callS kX11_382 (qX11_isCell_y hk) dX11_beside_1 rfl (by decide) (by decide) rfl ?_
  refine ev_if_ne_t (tgt := 9) dX11_beside_4 (by decide) (by decide) ?_
  refine ev_iload_n dX11_beside_9 rfl ?_
  refine ev_tableIn (tgt := 55) (off := 45) dX11_beside_10 (by decide) (by decide) (by decide +kernel) (by decide) ?_
  refine ev_iload_n dX11_beside_55 rfl ?_
  refine ev_bipush (v := nI 8) dX11_beside_56 (by decide) ?_
  refine ev_irem dX11_beside_58 (by decide) ?_
  rw [rem8 hk]
  refine ev_bipush (v := nI 7) dX11_beside_59 (by decide) ?_
  refine ev_icmp_ge (tgt := 70) dX11_beside_61 (by decide) (fun hc61 => ?_) (fun hc61 => ?_)
  · have e : nb k 1 = none := by have := (pk_le' (by decide) (by omega)).mp hc61; simp [nb]; omega
    refine ev_iconst dX11_beside_70 icm1 ?_
    exact ev_iret dX11_beside_71 rfl rfl (by rw [e] <;> rfl) rfl
  · have h8 : k % 8 < 7 := by have := (not_congr (pk_le' (by decide) (by omega))).mp hc61; omega
    have e : nb k 1 = some (k + 1) := by simp [nb, h8]
    refine ev_iload_n dX11_beside_64 rfl ?_
    refine ev_iconst dX11_beside_65 ic1 ?_
    refine ev_iadd dX11_beside_66 ?_
    rw [nI_add]
    refine ev_goto (tgt := 71) dX11_beside_67 (by decide) ?_
    exact ev_iret dX11_beside_71 rfl rfl (by rw [e] <;> rfl) rfl
set_option maxRecDepth 4000 in
theorem qX11_beside_2 {G : GX} {w : WS} {k : Nat} (hk : k < 64) : Big G 2 0 mX11_beside [.int (nI k), .int (nI 2)] w (.inl (some (.int (oI (nb k 2))))) w := by
  refine big_of (by decide +kernel) (Nat.le_of_ble_eq_true rfl) ?_
  show Ev G 2 0 mX11_beside 0 [some (.int (nI k)), some (.int (nI 2))] [] w _
  refine ev_iload_n dX11_beside_0 rfl ?_
  refine ev_callS kX11_382 (qX11_isCell_y hk) dX11_beside_1 rfl (by decide) (by decide) rfl ?_
  refine ev_if_ne_t (tgt := 9) dX11_beside_4 (by decide) (by decide) ?_
  refine ev_iload_n dX11_beside_9 rfl ?_
  refine ev_tableIn (tgt := 72) (off := 62) dX11_beside_10 (by decide) (by decide) (by decide +kernel) (by decide) ?_
  refine ev_iload_n dX11_beside_72 rfl ?_
  refine ev_bipush (v := nI 56) dX11_beside_73 (by decide) ?_
  refine ev_icmp_ge (tgt := 85) dX11_beside_75 (by decide) (fun hc75 => ?_) (fun hc75 => ?_)
  · have e : nb k 2 = none := by have := (pk_le' (by decide) (by omega)).mp hc75; simp [nb]; omega
    refine ev_iconst dX11_beside_85 icm1 ?_
    exact ev_iret dX11_beside_86 rfl rfl (by rw [e] <;> rfl) rfl
  · have h8 : k < 56 := by have := (not_congr (pk_le' (by decide) (by omega))).mp hc75; omega
    have e : nb k 2 = some (k + 8) := by simp [nb, h8]
    refine ev_iload_n dX11_beside_78 rfl ?_
    refine ev_bipush (v := nI 8) dX11_beside_79 (by decide) ?_
    refine ev_iadd dX11_beside_81 ?_
    rw [nI_add]
    refine ev_goto (tgt := 86) dX11_beside_82 (by decide) ?_
    exact ev_iret dX11_beside_86 rfl rfl (by rw [e] <;> rfl) rfl
set_option maxRecDepth 4000 in
theorem qX11_beside_3 {G : GX} {w : WS} {k : Nat} (hk : k < 64) : Big G 2 0 mX11_beside [.int (nI k), .int (nI 3)] w (.inl (some (.int (oI (nb k 3))))) w := by
  refine big_of (by decide +kernel) (Nat.le_of_ble_eq_true rfl) ?_
  show Ev G 2 0 mX11_beside 0 [some (.int (nI k)), some (.int (nI 3))] [] w _
  refine ev_iload_n dX11_beside_0 rfl ?_
  refine ev_callS kX11_382 (qX11_isCell_y hk) dX11_beside_1 rfl (by decide) (by decide) rfl ?_
  refine ev_if_ne_t (tgt := 9) dX11_beside_4 (by decide) (by decide) ?_
  refine ev_iload_n dX11_beside_9 rfl ?_
  refine ev_tableIn (tgt := 87) (off := 77) dX11_beside_10 (by decide) (by decide) (by decide +kernel) (by decide) ?_
  refine ev_iload_n dX11_beside_87 rfl ?_
  refine ev_bipush (v := nI 8) dX11_beside_88 (by decide) ?_
  refine ev_irem dX11_beside_90 (by decide) ?_
  rw [rem8 hk]
  refine ev_if_le (tgt := 100) dX11_beside_91 (by decide) (fun hc91 => ?_) (fun hc91 => ?_)
  · have e : nb k 3 = none := by have := (le0 (by omega)).mp hc91; simp [nb]; omega
    refine ev_iconst dX11_beside_100 icm1 ?_
    exact ev_iret dX11_beside_101 rfl rfl (by rw [e] <;> rfl) rfl
  · have h8 : 0 < k % 8 := by have := (not_congr (le0 (by omega))).mp hc91; omega
    have e : nb k 3 = some (k - 1) := by simp [nb, h8]
    refine ev_iload_n dX11_beside_94 rfl ?_
    refine ev_iconst dX11_beside_95 ic1 ?_
    refine ev_isub dX11_beside_96 ?_
    rw [pk_sub (by omega)]
    refine ev_goto (tgt := 101) dX11_beside_97 (by decide) ?_
    exact ev_iret dX11_beside_101 rfl rfl (by rw [e] <;> rfl) rfl
theorem qX11_beside {G : GX} {w : WS} {k d : Nat} (hk : k < 64) (hd : d < 4) : Big G 2 0 mX11_beside [.int (nI k), .int (nI d)] w (.inl (some (.int (oI (nb k d))))) w := by
  match d, hd with
  | 0, _ => exact qX11_beside_0 hk
  | 1, _ => exact qX11_beside_1 hk
  | 2, _ => exact qX11_beside_2 hk
  | 3, _ => exact qX11_beside_3 hk
set_option maxRecDepth 4000 in
theorem qX1_ownerAt_y {G : GX} {w : WS} {S : ST} (hS : cm_ S w) {k : Nat} (hk : k < 64) : Big G 2 0 mX1_ownerAt [.ref 1, .int (nI k)] w (.inl (some (.int (sO S k)))) w := by
  refine big_of (by decide +kernel) (Nat.le_of_ble_eq_true rfl) ?_
  obtain ⟨⟨hO, hC, hR, hRv, hD, hDv, hM⟩, hk1, hk2, hk3, hk4⟩ := hS
  show Ev G 2 0 mX1_ownerAt 0 [some (.ref 1), some (.int (nI k))] [] w _
  refine ev_iload_n dX1_ownerAt_0 rfl ?_
  refine ev_callN kX1_76 (qX11_isCell_y hk) dX1_ownerAt_1 rfl (by decide) (by decide) rfl ?_
  refine ev_if_eq_f (tgt := 16) dX1_ownerAt_4 (by decide) (by decide) ?_
  refine ev_aload_n dX1_ownerAt_7 rfl ?_
  refine ev_getR fX1_9 dX1_ownerAt_8 (by decide) sh1 rfl ?_
  refine ev_iload_n dX1_ownerAt_11 rfl ?_
  refine ev_iaload dX1_ownerAt_12 rfl (by omega) (by decide) sh2 ?_
  rw [hO k hk]
  refine ev_goto (tgt := 17) dX1_ownerAt_13 (by decide) ?_
  exact ev_iret dX1_ownerAt_17 rfl rfl rfl rfl
set_option maxRecDepth 4000 in
theorem qX1_ownerAt_m {G : GX} {w : WS} : Big G 2 0 mX1_ownerAt [.ref 1, .int (-1)] w (.inl (some (.int (-1)))) w := by
  refine big_of (by decide +kernel) (Nat.le_of_ble_eq_true rfl) ?_
  show Ev G 2 0 mX1_ownerAt 0 [some (.ref 1), some (.int (-1))] [] w _
  refine ev_iload_n dX1_ownerAt_0 rfl ?_
  refine ev_callN kX1_76 (qX11_isCell_n out_m1) dX1_ownerAt_1 rfl (by decide) (by decide) rfl ?_
  refine ev_if_eq_t (tgt := 16) dX1_ownerAt_4 (by decide) (by decide) ?_
  refine ev_iconst dX1_ownerAt_16 icm1 ?_
  exact ev_iret dX1_ownerAt_17 rfl rfl rfl rfl
theorem qX1_ownerAt {G : GX} {w : WS} {S : ST} (hS : cm_ S w) {o : Option Nat} (ho : ∀ k, o = some k → k < 64) : Big G 2 0 mX1_ownerAt [.ref 1, .int (oI o)] w (.inl (some (.int (oo (sO S) o)))) w := by
  cases o with
  | none => exact qX1_ownerAt_m
  | some k => exact qX1_ownerAt_y hS (ho k rfl)
set_option maxRecDepth 4000 in
theorem qX1_coinsOf_y {G : GX} {w : WS} {S : ST} (hS : cm_ S w) {k : Nat} (hk : k < 4) : Big G 2 0 mX1_coinsOf [.ref 1, .int (nI k)] w (.inl (some (.int (sC S k)))) w := by
  refine big_of (by decide +kernel) (Nat.le_of_ble_eq_true rfl) ?_
  obtain ⟨⟨hO, hC, hR, hRv, hD, hDv, hM⟩, hk1, hk2, hk3, hk4⟩ := hS
  show Ev G 2 0 mX1_coinsOf 0 [some (.ref 1), some (.int (nI k))] [] w _
  refine ev_iload_n dX1_coinsOf_0 rfl ?_
  refine ev_callN kX1_80 (qX11_isRealm_y hk) dX1_coinsOf_1 rfl (by decide) (by decide) rfl ?_
  refine ev_if_eq_f (tgt := 16) dX1_coinsOf_4 (by decide) (by decide) ?_
  refine ev_aload_n dX1_coinsOf_7 rfl ?_
  refine ev_getR fX1_15 dX1_coinsOf_8 (by decide) sh1 rfl ?_
  refine ev_iload_n dX1_coinsOf_11 rfl ?_
  refine ev_iaload dX1_coinsOf_12 rfl (by omega) (by decide) sh3 ?_
  rw [(hC k hk).1]
  refine ev_goto (tgt := 17) dX1_coinsOf_13 (by decide) ?_
  exact ev_iret dX1_coinsOf_17 rfl rfl rfl rfl
/-- the coins of the realms below n, added from the lowest -/
def al_S (S : ST) : Nat → Int32
  | 0 => 0
  | n + 1 => al_S S n + sC S n
set_option maxRecDepth 4000 in
theorem qX1_allCoins {G : GX} {w : WS} {S : ST} (hS : cm_ S w) : Big G 1 0 mX1_allCoins [.ref 1] w (.inl (some (.int (al_S S 4)))) w := by
  refine big_of (by decide +kernel) (Nat.le_of_ble_eq_true rfl) ?_
  obtain ⟨⟨hO, hC, hR, hRv, hD, hDv, hM⟩, hk1, hk2, hk3, hk4⟩ := hS
  show Ev G 1 0 mX1_allCoins 0 [some (.ref 1), none, none] [] w _
  refine ev_iconst dX1_allCoins_0 ic0 ?_
  refine ev_ist1 dX1_allCoins_1 (by decide) rfl ?_
  refine ev_iconst dX1_allCoins_2 ic0 ?_
  refine ev_ist2 dX1_allCoins_3 (by decide) rfl ?_
  have lp : ∀ (n i : Nat) , i + n = 4 → Ev G 1 0 mX1_allCoins 4 [some (.ref 1), some (.int (al_S S i)), some (.int (nI i))] [] w (zu_ G (.inl (some (.int (al_S S 4)))) w) := by
    intro n
    induction n with
    | zero =>
      intro i  hi 
      refine ev_iload_n dX1_allCoins_4 rfl ?_
      refine ev_iconst dX1_allCoins_5 ic4 ?_
      refine ev_icmp_ge_t (tgt := 24) dX1_allCoins_6 (by decide) (nI_le (by omega) (by omega)) ?_
      refine ev_iload_n dX1_allCoins_24 rfl ?_
      exact ev_iret dX1_allCoins_25 rfl rfl (by rw [show i = 4 by omega]) rfl
    | succ n ih =>
      intro i  hi 
      refine ev_iload_n dX1_allCoins_4 rfl ?_
      refine ev_iconst dX1_allCoins_5 ic4 ?_
      refine ev_icmp_ge_f (tgt := 24) dX1_allCoins_6 (by decide) (nI_ge (by omega) (by omega)) ?_
      refine ev_iload_n dX1_allCoins_9 rfl ?_
      refine ev_aload_n dX1_allCoins_10 rfl ?_
      refine ev_getR fX1_15 dX1_allCoins_11 (by decide) sh1 rfl ?_
      refine ev_iload_n dX1_allCoins_14 rfl ?_
      refine ev_iaload dX1_allCoins_15 rfl (by omega) (by decide) sh3 ?_
      rw [(hC i (by omega)).1]
      refine ev_iadd dX1_allCoins_16 ?_
      refine ev_ist1 dX1_allCoins_17 (by decide) rfl ?_
      refine ev_iinc2 dX1_allCoins_18 (nI_inc _) (by decide) rfl ?_
      refine ev_goto (tgt := 4) dX1_allCoins_21 (by decide) ?_
      exact ih (i + 1) (by omega)
  exact lp 4 0 rfl
set_option maxRecDepth 4000 in
theorem qX1_cellsOf {G : GX} {w : WS} {S : ST} (hS : cm_ S w) {r : Int32} : Big G 1 0 mX1_cellsOf [.ref 1, .int r] w (.inl (some (.int (nI (cO S r))))) w := by
  refine big_of (by decide +kernel) (Nat.le_of_ble_eq_true rfl) ?_
  obtain ⟨⟨hO, hC, hR, hRv, hD, hDv, hM⟩, hk1, hk2, hk3, hk4⟩ := hS
  show Ev G 1 0 mX1_cellsOf 0 [some (.ref 1), some (.int r), none, none] [] w _
  refine ev_iconst dX1_cellsOf_0 ic0 ?_
  refine ev_ist2 dX1_cellsOf_1 (by decide) rfl ?_
  refine ev_iconst dX1_cellsOf_2 ic0 ?_
  refine ev_ist3 dX1_cellsOf_3 (by decide) rfl ?_
  have lp : ∀ (n i : Nat) , i + n = 64 → Ev G 1 0 mX1_cellsOf 4 [some (.ref 1), some (.int r), some (.int (nI (ct (fun c => sO S c == r) i))), some (.int (nI i))] [] w (zu_ G (.inl (some (.int (nI (cO S r))))) w) := by
    intro n
    induction n with
    | zero =>
      intro i  hi 
      refine ev_iload_n dX1_cellsOf_4 rfl ?_
      refine ev_bipush (v := nI 64) dX1_cellsOf_5 (by decide) ?_
      refine ev_icmp_ge_t (tgt := 29) dX1_cellsOf_7 (by decide) (nI_le (by omega) (by omega)) ?_
      refine ev_iload_n dX1_cellsOf_29 rfl ?_
      exact ev_iret dX1_cellsOf_30 rfl rfl (by rw [show i = 64 by omega]; rfl) rfl
    | succ n ih =>
      intro i  hi 
      refine ev_iload_n dX1_cellsOf_4 rfl ?_
      refine ev_bipush (v := nI 64) dX1_cellsOf_5 (by decide) ?_
      refine ev_icmp_ge_f (tgt := 29) dX1_cellsOf_7 (by decide) (nI_ge (by omega) (by omega)) ?_
      refine ev_aload_n dX1_cellsOf_10 rfl ?_
      refine ev_getR fX1_9 dX1_cellsOf_11 (by decide) sh1 rfl ?_
      refine ev_iload_n dX1_cellsOf_14 rfl ?_
      refine ev_iaload dX1_cellsOf_15 rfl (by omega) (by decide) sh2 ?_
      rw [hO i (by omega)]
      refine ev_iload_n dX1_cellsOf_16 rfl ?_
      refine ev_icmp_ne (tgt := 23) dX1_cellsOf_17 (by decide) (fun hc17 => ?_) (fun hc17 => ?_)
      · rw [← ct_f (n := i) (by simpa using hc17)]
        refine ev_iinc3 dX1_cellsOf_23 (nI_inc _) (by decide) rfl ?_
        refine ev_goto (tgt := 4) dX1_cellsOf_26 (by decide) ?_
        exact ih (i + 1) (by omega)
      · refine ev_iinc2 dX1_cellsOf_20 (nI_inc _) (by decide) rfl ?_
        rw [← ct_t (p := fun c => sO S c == r) (n := i) (by simpa using hc17)]
        refine ev_iinc3 dX1_cellsOf_23 (nI_inc _) (by decide) rfl ?_
        refine ev_goto (tgt := 4) dX1_cellsOf_26 (by decide) ?_
        exact ih (i + 1) (by omega)
  exact lp 64 0 rfl
