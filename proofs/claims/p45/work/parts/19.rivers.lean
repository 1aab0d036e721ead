/-! the chart read: what is beside, rivers, dragons; what is asked of rivers -/
def hb (S : ST) (k : Nat) (r : Int32) (d : Nat) : Bool := match nb k d with
  | none => false
  | some e => sO S e == r
def bes (S : ST) (k : Nat) (r : Int32) : Bool := (List.range 4).any (hb S k r)
def xs (S : ST) (i p : Nat) : Bool := sO S (rP S i p) != sO S (rP S i (p + 1))
def wf (S : ST) (i p : Nat) : Nat := if sO S (rP S i p) = -1 then 1 else 2
def wgt (S : ST) (i : Nat) : Nat := sm (wf S i) (rN S i + 1) + 3 * ct (xs S i) (rN S i)
def cR (S : ST) (i : Nat) (r : Int32) : Nat := ct (fun p => sO S (rP S i p) == r) (rN S i + 1)
def tR (S : ST) (i : Nat) (r : Int32) : Nat := ct (fun p => sO S (rP S i p) == r && sO S (rP S i (p + 1)) == r) (rN S i)
def thr (S : ST) (r : Int32) : Nat := ct (fun i => decide (0 < cR S i r)) (nR S)
def wr (S : ST) (m i : Nat) : Nat := (rT S i - rN S i * m) + (rN S i * m - rT S i)
def awr (S : ST) (m : Nat) : Nat := sm (wr S m) (nR S)
theorem obF {b : Bool} (h : b = false) : (Sum.inl (some (Value.int (bI b))) : OT) = .inl (some (.int (nI 0))) := by subst h; rfl
theorem obT {b : Bool} (h : b = true) : (Sum.inl (some (Value.int (bI b))) : OT) = .inl (some (.int (nI 1))) := by subst h; rfl
theorem oN {a b : Nat} (h : a = b) : (Sum.inl (some (Value.int (nI a))) : OT) = .inl (some (.int (nI b))) := by rw [h]
theorem any_f {n : Nat} {p : Nat → Bool} (h : ∀ j, j < n → p j = false) : (List.range n).any p = false := by
  rw [List.any_eq_false]
  intro x hx
  rw [h x (List.mem_range.mp hx)]
  decide
theorem any_t {n j : Nat} {p : Nat → Bool} (hj : j < n) (h : p j = true) : (List.range n).any p = true :=
  List.any_eq_true.mpr ⟨j, List.mem_range.mpr hj, h⟩
theorem rv_ {S : ST} (h : okS S) {i : Nat} (hi : i < nR S) : nR S ≤ 4 ∧ rT S i ≤ 99 ∧ 1 ≤ rN S i ∧ rN S i ≤ 12 ∧ (∀ p, p ≤ rN S i → rP S i p < 64) := ⟨h.2.1.1, (h.2.1.2 i hi).1, (h.2.1.2 i hi).2.1, (h.2.1.2 i hi).2.2.1, (h.2.1.2 i hi).2.2.2.1⟩
theorem abs_nI {a b : Nat} (ha : a < 2 ^ 30) (hb : b < 2 ^ 30) : (if 0 ≤ nI a - nI b then nI a - nI b else 0 - (nI a - nI b)) = nI ((a - b) + (b - a)) := by
  rcases Nat.le_total b a with h | h
  · rw [pk_sub h, if_pos (nI_pos' (by omega)), show b - a = 0 by omega, Nat.add_zero]
  · have e : nI a - nI b = -nI (b - a) := by rw [← Int32.neg_sub, pk_sub h]
    rw [e]
    have h2 : (0 : Int32) - -nI (b - a) = nI (b - a) := by simp
    rw [h2, show a - b = 0 by omega, Nat.zero_add]
    split
    · rename_i h3
      rcases Nat.eq_zero_or_pos (b - a) with h4 | h4
      · rw [h4]; decide
      · exfalso
        have h5 := Int32.le_iff_toInt_le.mp h3
        have h6 : (-nI (b - a)).toInt = -((b - a : Nat) : Int) := sb_negT (by omega)
        rw [h6, Int32.toInt_zero] at h5
        omega
    · rfl
set_option maxRecDepth 4000 in
theorem qX1_isRealmBeside {G : GX} {w : WS} {S : ST} (hS : cm_ S w) {k : Nat} {r : Int32} (hk : k < 64) : Big G 3 0 mX1_isRealmBeside [.ref 1, .int (nI k), .int r] w (.inl (some (.int (bI (bes S k r))))) w := by
  refine big_of (by decide +kernel) (Nat.le_of_ble_eq_true rfl) ?_
  have hS0 := hS
  obtain ⟨⟨hO, hC, hR, hRv, hD, hDv, hM⟩, hk1, hk2, hk3, hk4⟩ := hS
  show Ev G 3 0 mX1_isRealmBeside 0 [some (.ref 1), some (.int (nI k)), some (.int r), none, none] [] w _
  refine ev_iconst dX1_isRealmBeside_0 ic0 ?_
  refine ev_ist3 dX1_isRealmBeside_1 (by decide) rfl ?_
  have lp : ∀ (n i : Nat) , i + n = 4 → (∀ j, j < i → hb S k r j = false) → Ev G 3 0 mX1_isRealmBeside 2 [some (.ref 1), some (.int (nI k)), some (.int r), some (.int (nI i)), none] [] w (zu_ G (.inl (some (.int (bI (bes S k r))))) w) := by
    intro n
    induction n with
    | zero =>
      intro i  hi hb0
      refine ev_iload_n dX1_isRealmBeside_2 rfl ?_
      refine ev_iconst dX1_isRealmBeside_3 ic4 ?_
      refine ev_icmp_ge_t (tgt := 38) dX1_isRealmBeside_4 (by decide) (nI_le (by omega) (by omega)) ?_
      refine ev_iconst dX1_isRealmBeside_38 ic0 ?_
      exact ev_iret dX1_isRealmBeside_39 rfl (by decide) (obF (any_f (fun j hj => hb0 j (by omega)))) rfl
    | succ n ih =>
      intro i  hi hb0
      refine ev_iload_n dX1_isRealmBeside_2 rfl ?_
      refine ev_iconst dX1_isRealmBeside_3 ic4 ?_
      refine ev_icmp_ge_f (tgt := 38) dX1_isRealmBeside_4 (by decide) (nI_ge (by omega) (by omega)) ?_
      refine ev_iload_n dX1_isRealmBeside_7 rfl ?_
      refine ev_iload_n dX1_isRealmBeside_8 rfl ?_
      refine ev_callN kX1_87 (qX11_beside (d := i) hk (by omega)) dX1_isRealmBeside_9 rfl (by decide) (by decide) rfl ?_
      refine ev_ist4 dX1_isRealmBeside_12 (by decide) rfl ?_
      refine ev_iload dX1_isRealmBeside_14 rfl ?_
      refine ev_iconst dX1_isRealmBeside_16 icm1 ?_
      refine ev_icmp_eq (tgt := 32) dX1_isRealmBeside_17 (by decide) (fun hc17 => ?_) (fun hc17 => ?_)
      · have e : nb k i = none := (oI_none (fun e he => by have := nb_lt hk he; omega)).mp hc17
        refine ev_iinc3 dX1_isRealmBeside_32 (nI_inc _) (by decide) rfl ?_
        refine ev_goto (tgt := 2) dX1_isRealmBeside_35 (by decide) ?_
        refine ev_fg4 ?_
        exact ih (i + 1) (by omega) (fun j hj => by
          rcases Nat.lt_or_ge j i with h | h
          · exact hb0 j h
          · rw [show j = i by omega]
            first | (simp [hb, e]; done) | (simp [hb, he, hc27]; done))
      · obtain ⟨e, he⟩ : ∃ e, nb k i = some e := by
          cases hq : nb k i with
          | none => exact absurd (by rw [hq]; rfl) hc17
          | some e => exact ⟨e, rfl⟩
        refine ev_aload_n dX1_isRealmBeside_20 rfl ?_
        refine ev_iload dX1_isRealmBeside_21 rfl ?_
        refine ev_callV kX1_91 co1 (qX1_ownerAt hS0 (o := nb k i) (fun e he => nb_lt hk he)) dX1_isRealmBeside_23 rfl (by decide) (by decide) rfl ?_
        rw [show oo (sO S) (nb k i) = sO S e by rw [he]; rfl]
        refine ev_iload_n dX1_isRealmBeside_26 rfl ?_
        refine ev_icmp_ne (tgt := 32) dX1_isRealmBeside_27 (by decide) (fun hc27 => ?_) (fun hc27 => ?_)
        · refine ev_iinc3 dX1_isRealmBeside_32 (nI_inc _) (by decide) rfl ?_
          refine ev_goto (tgt := 2) dX1_isRealmBeside_35 (by decide) ?_
          refine ev_fg4 ?_
          exact ih (i + 1) (by omega) (fun j hj => by
            rcases Nat.lt_or_ge j i with h | h
            · exact hb0 j h
            · rw [show j = i by omega]
              first | (simp [hb, e]; done) | (simp [hb, he, hc27]; done))
        · refine ev_iconst dX1_isRealmBeside_30 ic1 ?_
          exact ev_iret dX1_isRealmBeside_31 rfl (by decide) (obT (any_t (j := i) (by omega) (by simp [hb, he, hc27]))) rfl
  exact lp 4 0 rfl (fun j hj => absurd hj (Nat.not_lt_zero _))
set_option maxRecDepth 4000 in
theorem qX1_hasRiver_y {G : GX} {w : WS} {S : ST} (hS : cm_ S w) {i : Nat} (hi : i < nR S) : Big G 1 0 mX1_hasRiver [.ref 1, .int (nI i)] w (.inl (some (.int (bI true)))) w := by
  refine big_of (by decide +kernel) (Nat.le_of_ble_eq_true rfl) ?_
  have hS0 := hS
  obtain ⟨⟨hO, hC, hR, hRv, hD, hDv, hM⟩, hk1, hk2, hk3, hk4⟩ := hS
  show Ev G 1 0 mX1_hasRiver 0 [some (.ref 1), some (.int (nI i))] [] w _
  refine ev_iload_n dX1_hasRiver_0 rfl ?_
  refine ev_if_lt_f (tgt := 21) dX1_hasRiver_1 (by decide) (nI_pos (by omega)) ?_
  refine ev_iload_n dX1_hasRiver_4 rfl ?_
  refine ev_aload_n dX1_hasRiver_5 rfl ?_
  refine ev_getI fX1_58 dX1_hasRiver_6 (by decide) sh1 rfl ?_
  rw [hR]
  refine ev_icmp_ge_f (tgt := 21) dX1_hasRiver_9 (by decide) (nI_ge hi (by omega)) ?_
  refine ev_iload_n dX1_hasRiver_12 rfl ?_
  refine ev_iconst dX1_hasRiver_13 ic4 ?_
  refine ev_icmp_ge_f (tgt := 21) dX1_hasRiver_14 (by decide) (nI_ge (by omega) (by decide)) ?_
  refine ev_iconst dX1_hasRiver_17 ic1 ?_
  refine ev_goto (tgt := 22) dX1_hasRiver_18 (by decide) ?_
  exact ev_iret dX1_hasRiver_22 rfl (by decide) rfl rfl
set_option maxRecDepth 4000 in
theorem qX1_hasRiver_n {G : GX} {w : WS} {S : ST} (hS : cm_ S w) {x : Int32} (hx : out_ (nR S) x) : Big G 1 0 mX1_hasRiver [.ref 1, .int x] w (.inl (some (.int (bI false)))) w := by
  refine big_of (by decide +kernel) (Nat.le_of_ble_eq_true rfl) ?_
  have hS0 := hS
  obtain ⟨⟨hO, hC, hR, hRv, hD, hDv, hM⟩, hk1, hk2, hk3, hk4⟩ := hS
  show Ev G 1 0 mX1_hasRiver 0 [some (.ref 1), some (.int x)] [] w _
  refine ev_iload_n dX1_hasRiver_0 rfl ?_
  refine ev_if_lt (tgt := 21) dX1_hasRiver_1 (by decide) (fun hc1 => ?_) (fun hc1 => ?_)
  · refine ev_iconst dX1_hasRiver_21 ic0 ?_
    exact ev_iret dX1_hasRiver_22 rfl (by decide) rfl rfl
  · refine ev_iload_n dX1_hasRiver_4 rfl ?_
    refine ev_aload_n dX1_hasRiver_5 rfl ?_
    refine ev_getI fX1_58 dX1_hasRiver_6 (by decide) sh1 rfl ?_
    rw [hR]
    refine ev_icmp_ge (tgt := 21) dX1_hasRiver_9 (by decide) (fun hc9 => ?_) (fun hc9 => ?_)
    · refine ev_iconst dX1_hasRiver_21 ic0 ?_
      exact ev_iret dX1_hasRiver_22 rfl (by decide) rfl rfl
    · exact absurd hx (fun q => q.elim hc1 hc9)
set_option maxRecDepth 4000 in
theorem qX1_hasDragon_y {G : GX} {w : WS} {S : ST} (hS : cm_ S w) {i : Nat} (hi : i < nD S) : Big G 1 0 mX1_hasDragon [.ref 1, .int (nI i)] w (.inl (some (.int (bI true)))) w := by
  refine big_of (by decide +kernel) (Nat.le_of_ble_eq_true rfl) ?_
  have hS0 := hS
  obtain ⟨⟨hO, hC, hR, hRv, hD, hDv, hM⟩, hk1, hk2, hk3, hk4⟩ := hS
  show Ev G 1 0 mX1_hasDragon 0 [some (.ref 1), some (.int (nI i))] [] w _
  refine ev_iload_n dX1_hasDragon_0 rfl ?_
  refine ev_if_lt_f (tgt := 21) dX1_hasDragon_1 (by decide) (nI_pos (by omega)) ?_
  refine ev_iload_n dX1_hasDragon_4 rfl ?_
  refine ev_aload_n dX1_hasDragon_5 rfl ?_
  refine ev_getI fX1_61 dX1_hasDragon_6 (by decide) sh1 rfl ?_
  rw [hD]
  refine ev_icmp_ge_f (tgt := 21) dX1_hasDragon_9 (by decide) (nI_ge hi (by omega)) ?_
  refine ev_iload_n dX1_hasDragon_12 rfl ?_
  refine ev_iconst dX1_hasDragon_13 ic5 ?_
  refine ev_icmp_ge_f (tgt := 21) dX1_hasDragon_14 (by decide) (nI_ge (by omega) (by decide)) ?_
  refine ev_iconst dX1_hasDragon_17 ic1 ?_
  refine ev_goto (tgt := 22) dX1_hasDragon_18 (by decide) ?_
  exact ev_iret dX1_hasDragon_22 rfl (by decide) rfl rfl
set_option maxRecDepth 4000 in
theorem qX1_hasDragon_n {G : GX} {w : WS} {S : ST} (hS : cm_ S w) {x : Int32} (hx : out_ (nD S) x) : Big G 1 0 mX1_hasDragon [.ref 1, .int x] w (.inl (some (.int (bI false)))) w := by
  refine big_of (by decide +kernel) (Nat.le_of_ble_eq_true rfl) ?_
  have hS0 := hS
  obtain ⟨⟨hO, hC, hR, hRv, hD, hDv, hM⟩, hk1, hk2, hk3, hk4⟩ := hS
  show Ev G 1 0 mX1_hasDragon 0 [some (.ref 1), some (.int x)] [] w _
  refine ev_iload_n dX1_hasDragon_0 rfl ?_
  refine ev_if_lt (tgt := 21) dX1_hasDragon_1 (by decide) (fun hc1 => ?_) (fun hc1 => ?_)
  · refine ev_iconst dX1_hasDragon_21 ic0 ?_
    exact ev_iret dX1_hasDragon_22 rfl (by decide) rfl rfl
  · refine ev_iload_n dX1_hasDragon_4 rfl ?_
    refine ev_aload_n dX1_hasDragon_5 rfl ?_
    refine ev_getI fX1_61 dX1_hasDragon_6 (by decide) sh1 rfl ?_
    rw [hD]
    refine ev_icmp_ge (tgt := 21) dX1_hasDragon_9 (by decide) (fun hc9 => ?_) (fun hc9 => ?_)
    · refine ev_iconst dX1_hasDragon_21 ic0 ?_
      exact ev_iret dX1_hasDragon_22 rfl (by decide) rfl rfl
    · exact absurd hx (fun q => q.elim hc1 hc9)
set_option maxRecDepth 4000 in
theorem qX1_stepsOf {G : GX} {w : WS} {S : ST} (hS : cm_ S w) {i : Nat} (hi : i < nR S) : Big G 2 0 mX1_stepsOf [.ref 1, .int (nI i)] w (.inl (some (.int (nI (rN S i))))) w := by
  refine big_of (by decide +kernel) (Nat.le_of_ble_eq_true rfl) ?_
  have hS0 := hS
  have hv := rv_ hS.2 hi
  obtain ⟨⟨hO, hC, hR, hRv, hD, hDv, hM⟩, hk1, hk2, hk3, hk4⟩ := hS
  show Ev G 2 0 mX1_stepsOf 0 [some (.ref 1), some (.int (nI i))] [] w _
  refine ev_aload_n dX1_stepsOf_0 rfl ?_
  refine ev_iload_n dX1_stepsOf_1 rfl ?_
  refine ev_callV kX1_94 co1 (qX1_hasRiver_y hS0 hi) dX1_stepsOf_2 rfl (by decide) (by decide) rfl ?_
  refine ev_if_eq_f (tgt := 17) dX1_stepsOf_5 (by decide) (by decide) ?_
  refine ev_aload_n dX1_stepsOf_8 rfl ?_
  refine ev_getR fX1_27 dX1_stepsOf_9 (by decide) sh1 rfl ?_
  refine ev_iload_n dX1_stepsOf_12 rfl ?_
  refine ev_iaload dX1_stepsOf_13 rfl (by omega) (by decide) sh7 ?_
  rw [(hRv i hi).1]
  refine ev_goto (tgt := 18) dX1_stepsOf_14 (by decide) ?_
  exact ev_iret dX1_stepsOf_18 rfl rfl rfl rfl
set_option maxRecDepth 4000 in
theorem qX1_toldOf {G : GX} {w : WS} {S : ST} (hS : cm_ S w) {i : Nat} (hi : i < nR S) : Big G 2 0 mX1_toldOf [.ref 1, .int (nI i)] w (.inl (some (.int (nI (rT S i))))) w := by
  refine big_of (by decide +kernel) (Nat.le_of_ble_eq_true rfl) ?_
  have hS0 := hS
  have hv := rv_ hS.2 hi
  obtain ⟨⟨hO, hC, hR, hRv, hD, hDv, hM⟩, hk1, hk2, hk3, hk4⟩ := hS
  show Ev G 2 0 mX1_toldOf 0 [some (.ref 1), some (.int (nI i))] [] w _
  refine ev_aload_n dX1_toldOf_0 rfl ?_
  refine ev_iload_n dX1_toldOf_1 rfl ?_
  refine ev_callV kX1_94 co1 (qX1_hasRiver_y hS0 hi) dX1_toldOf_2 rfl (by decide) (by decide) rfl ?_
  refine ev_if_eq_f (tgt := 17) dX1_toldOf_5 (by decide) (by decide) ?_
  refine ev_aload_n dX1_toldOf_8 rfl ?_
  refine ev_getR fX1_30 dX1_toldOf_9 (by decide) sh1 rfl ?_
  refine ev_iload_n dX1_toldOf_12 rfl ?_
  refine ev_iaload dX1_toldOf_13 rfl (by omega) (by decide) sh8 ?_
  rw [(hRv i hi).2.1]
  refine ev_goto (tgt := 18) dX1_toldOf_14 (by decide) ?_
  exact ev_iret dX1_toldOf_18 rfl rfl rfl rfl
set_option maxRecDepth 4000 in
theorem qX1_placeOf {G : GX} {w : WS} {S : ST} (hS : cm_ S w) {i : Nat} (hi : i < nR S) {q : Nat} (hq : q ≤ rN S i) : Big G 2 0 mX1_placeOf [.ref 1, .int (nI i), .int (nI q)] w (.inl (some (.int (nI (rP S i q))))) w := by
  refine big_of (by decide +kernel) (Nat.le_of_ble_eq_true rfl) ?_
  have hS0 := hS
  have hv := rv_ hS.2 hi
  obtain ⟨⟨hO, hC, hR, hRv, hD, hDv, hM⟩, hk1, hk2, hk3, hk4⟩ := hS
  show Ev G 2 0 mX1_placeOf 0 [some (.ref 1), some (.int (nI i)), some (.int (nI q))] [] w _
  refine ev_aload_n dX1_placeOf_0 rfl ?_
  refine ev_iload_n dX1_placeOf_1 rfl ?_
  refine ev_callV kX1_94 co1 (qX1_hasRiver_y hS0 hi) dX1_placeOf_2 rfl (by decide) (by decide) rfl ?_
  refine ev_if_eq_f (tgt := 32) dX1_placeOf_5 (by decide) (by decide) ?_
  refine ev_iload_n dX1_placeOf_8 rfl ?_
  refine ev_if_lt_f (tgt := 32) dX1_placeOf_9 (by decide) (nI_pos (by omega)) ?_
  refine ev_iload_n dX1_placeOf_12 rfl ?_
  refine ev_bipush (v := nI 13) dX1_placeOf_13 (by decide) ?_
  refine ev_icmp_ge_f (tgt := 32) dX1_placeOf_15 (by decide) (nI_ge (by omega) (by decide)) ?_
  refine ev_aload_n dX1_placeOf_18 rfl ?_
  refine ev_getR fX1_24 dX1_placeOf_19 (by decide) sh1 rfl ?_
  refine ev_iload_n dX1_placeOf_22 rfl ?_
  refine ev_bipush (v := nI 13) dX1_placeOf_23 (by decide) ?_
  refine ev_imul dX1_placeOf_25 ?_
  rw [pk_mul, Nat.mul_comm]
  refine ev_iload_n dX1_placeOf_26 rfl ?_
  refine ev_iadd dX1_placeOf_27 ?_
  rw [nI_add]
  refine ev_iaload dX1_placeOf_28 rfl (by omega) (by decide) sh6 ?_
  rw [(hRv i hi).2.2 q hq]
  refine ev_goto (tgt := 33) dX1_placeOf_29 (by decide) ?_
  exact ev_iret dX1_placeOf_33 rfl rfl rfl rfl
set_option maxRecDepth 4000 in
theorem qX1_ownedCells {G : GX} {w : WS} {S : ST} (hS : cm_ S w) : Big G 2 0 mX1_ownedCells [.ref 1] w (.inl (some (.int (nI (64 - cO S (-1)))))) w := by
  refine big_of (by decide +kernel) (Nat.le_of_ble_eq_true rfl) ?_
  have hS0 := hS
  obtain ⟨⟨hO, hC, hR, hRv, hD, hDv, hM⟩, hk1, hk2, hk3, hk4⟩ := hS
  show Ev G 2 0 mX1_ownedCells 0 [some (.ref 1)] [] w _
  refine ev_bipush (v := nI 64) dX1_ownedCells_0 (by decide) ?_
  refine ev_aload_n dX1_ownedCells_2 rfl ?_
  refine ev_iconst dX1_ownedCells_3 icm1 ?_
  refine ev_callV kX1_83 co1 (qX1_cellsOf hS0) dX1_ownedCells_4 rfl (by decide) (by decide) rfl ?_
  refine ev_isub dX1_ownedCells_7 ?_
  rw [pk_sub (show cO S (-1) ≤ 64 from ct_le _ _)]
  exact ev_iret dX1_ownedCells_8 rfl rfl rfl rfl
set_option maxRecDepth 4000 in
theorem qX1_dragonOn {G : GX} {w : WS} {S : ST} (hS : cm_ S w) {k : Nat} (hk : k < 64) : Big G 1 0 mX1_dragonOn [.ref 1, .int (nI k)] w (.inl (some (.int (oI (dOn S k))))) w := by
  refine big_of (by decide +kernel) (Nat.le_of_ble_eq_true rfl) ?_
  have hS0 := hS
  obtain ⟨⟨hO, hC, hR, hRv, hD, hDv, hM⟩, hk1, hk2, hk3, hk4⟩ := hS
  show Ev G 1 0 mX1_dragonOn 0 [some (.ref 1), some (.int (nI k)), none] [] w _
  refine ev_iconst dX1_dragonOn_0 ic0 ?_
  refine ev_ist2 dX1_dragonOn_1 (by decide) rfl ?_
  have h5 := hk3.1
  have lp : ∀ (n i : Nat) , i + n = nD S → (∀ j, j < i → (dC S j == k) = false) → Ev G 1 0 mX1_dragonOn 2 [some (.ref 1), some (.int (nI k)), some (.int (nI i))] [] w (zu_ G (.inl (some (.int (oI (dOn S k))))) w) := by
    intro n
    induction n with
    | zero =>
      intro i  hi hb0
      refine ev_iload_n dX1_dragonOn_2 rfl ?_
      refine ev_aload_n dX1_dragonOn_3 rfl ?_
      refine ev_getI fX1_61 dX1_dragonOn_4 (by decide) sh1 rfl ?_
      rw [hD]
      refine ev_icmp_ge_t (tgt := 33) dX1_dragonOn_7 (by decide) (nI_le (by omega) (by omega)) ?_
      refine ev_iconst dX1_dragonOn_33 icm1 ?_
      exact ev_iret dX1_dragonOn_34 rfl rfl (by rw [show dOn S k = none from find_none (fun j hj => hb0 j (by omega))]; rfl) rfl
    | succ n ih =>
      intro i  hi hb0
      refine ev_iload_n dX1_dragonOn_2 rfl ?_
      refine ev_aload_n dX1_dragonOn_3 rfl ?_
      refine ev_getI fX1_61 dX1_dragonOn_4 (by decide) sh1 rfl ?_
      rw [hD]
      refine ev_icmp_ge_f (tgt := 33) dX1_dragonOn_7 (by decide) (nI_ge (by omega) (by omega)) ?_
      refine ev_iload_n dX1_dragonOn_10 rfl ?_
      refine ev_iconst dX1_dragonOn_11 ic5 ?_
      refine ev_icmp_ge_f (tgt := 33) dX1_dragonOn_12 (by decide) (nI_ge (by omega) (by decide)) ?_
      refine ev_aload_n dX1_dragonOn_15 rfl ?_
      refine ev_getR fX1_33 dX1_dragonOn_16 (by decide) sh1 rfl ?_
      refine ev_iload_n dX1_dragonOn_19 rfl ?_
      refine ev_iaload dX1_dragonOn_20 rfl (by omega) (by decide) sh9 ?_
      rw [(hDv i (by omega)).1]
      refine ev_iload_n dX1_dragonOn_21 rfl ?_
      refine ev_icmp_ne (tgt := 27) dX1_dragonOn_22 (by decide) (fun hc22 => ?_) (fun hc22 => ?_)
      · have e : (dC S i == k) = false := by
          rw [beq_eq_false_iff_ne]
          exact fun q => hc22 (by rw [q])
        refine ev_iinc2 dX1_dragonOn_27 (nI_inc _) (by decide) rfl ?_
        refine ev_goto (tgt := 2) dX1_dragonOn_30 (by decide) ?_
        exact ih (i + 1) (by omega) (fun j hj => by
          rcases Nat.lt_or_ge j i with h | h
          · exact hb0 j h
          · rw [show j = i by omega]; exact e)
      · have e : dC S i = k := nI_inj (by have := (hk3.2.1 i (by omega)).1; omega) (by omega) hc22
        refine ev_iload_n dX1_dragonOn_25 rfl ?_
        exact ev_iret dX1_dragonOn_26 rfl rfl (by rw [show dOn S k = some i from find_some (by omega) (by rw [e]; exact beq_self_eq_true _) hb0]; rfl) rfl
  exact lp (nD S) 0 (by omega) (fun j hj => absurd hj (Nat.not_lt_zero _))
set_option maxRecDepth 4000 in
theorem qX1_dragonsOf {G : GX} {w : WS} {S : ST} (hS : cm_ S w) {r : Int32} : Big G 3 0 mX1_dragonsOf [.ref 1, .int r] w (.inl (some (.int (nI (dOf S r))))) w := by
  refine big_of (by decide +kernel) (Nat.le_of_ble_eq_true rfl) ?_
  have hS0 := hS
  obtain ⟨⟨hO, hC, hR, hRv, hD, hDv, hM⟩, hk1, hk2, hk3, hk4⟩ := hS
  show Ev G 3 0 mX1_dragonsOf 0 [some (.ref 1), some (.int r), none, none] [] w _
  refine ev_iconst dX1_dragonsOf_0 ic0 ?_
  refine ev_ist2 dX1_dragonsOf_1 (by decide) rfl ?_
  refine ev_iconst dX1_dragonsOf_2 ic0 ?_
  refine ev_ist3 dX1_dragonsOf_3 (by decide) rfl ?_
  have h5 := hk3.1
  have lp : ∀ (n i : Nat) , i + n = nD S → Ev G 3 0 mX1_dragonsOf 4 [some (.ref 1), some (.int r), some (.int (nI (ct (fun i => sO S (dC S i) == r) i))), some (.int (nI i))] [] w (zu_ G (.inl (some (.int (nI (dOf S r))))) w) := by
    intro n
    induction n with
    | zero =>
      intro i  hi 
      refine ev_iload_n dX1_dragonsOf_4 rfl ?_
      refine ev_aload_n dX1_dragonsOf_5 rfl ?_
      refine ev_getI fX1_61 dX1_dragonsOf_6 (by decide) sh1 rfl ?_
      rw [hD]
      refine ev_icmp_ge_t (tgt := 40) dX1_dragonsOf_9 (by decide) (nI_le (by omega) (by omega)) ?_
      refine ev_iload_n dX1_dragonsOf_40 rfl ?_
      exact ev_iret dX1_dragonsOf_41 rfl rfl (oN (by rw [show i = nD S by omega]; rfl)) rfl
    | succ n ih =>
      intro i  hi 
      refine ev_iload_n dX1_dragonsOf_4 rfl ?_
      refine ev_aload_n dX1_dragonsOf_5 rfl ?_
      refine ev_getI fX1_61 dX1_dragonsOf_6 (by decide) sh1 rfl ?_
      rw [hD]
      refine ev_icmp_ge_f (tgt := 40) dX1_dragonsOf_9 (by decide) (nI_ge (by omega) (by omega)) ?_
      refine ev_iload_n dX1_dragonsOf_12 rfl ?_
      refine ev_iconst dX1_dragonsOf_13 ic5 ?_
      refine ev_icmp_ge_f (tgt := 40) dX1_dragonsOf_14 (by decide) (nI_ge (by omega) (by decide)) ?_
      refine ev_aload_n dX1_dragonsOf_17 rfl ?_
      refine ev_aload_n dX1_dragonsOf_18 rfl ?_
      refine ev_getR fX1_33 dX1_dragonsOf_19 (by decide) sh1 rfl ?_
      refine ev_iload_n dX1_dragonsOf_22 rfl ?_
      refine ev_iaload dX1_dragonsOf_23 rfl (by omega) (by decide) sh9 ?_
      rw [(hDv i (by omega)).1]
      refine ev_callV kX1_91 co1 (qX1_ownerAt_y hS0 ((hk3.2.1 i (by omega)).1)) dX1_dragonsOf_24 rfl (by decide) (by decide) rfl ?_
      refine ev_iload_n dX1_dragonsOf_27 rfl ?_
      refine ev_icmp_ne (tgt := 34) dX1_dragonsOf_28 (by decide) (fun hc28 => ?_) (fun hc28 => ?_)
      · rw [← ct_f (p := (fun i => sO S (dC S i) == r)) (n := i) (by simpa using hc28)]
        refine ev_iinc3 dX1_dragonsOf_34 (nI_inc _) (by decide) rfl ?_
        refine ev_goto (tgt := 4) dX1_dragonsOf_37 (by decide) ?_
        exact ih (i + 1) (by omega)
      · refine ev_iinc2 dX1_dragonsOf_31 (nI_inc _) (by decide) rfl ?_
        rw [← ct_t (p := (fun i => sO S (dC S i) == r)) (n := i) (by simpa using hc28)]
        refine ev_iinc3 dX1_dragonsOf_34 (nI_inc _) (by decide) rfl ?_
        refine ev_goto (tgt := 4) dX1_dragonsOf_37 (by decide) ?_
        exact ih (i + 1) (by omega)
  exact lp (nD S) 0 (by omega)
set_option maxRecDepth 4000 in
theorem qX10_isCrossing {G : GX} {w : WS} {S : ST} (hS : cm_ S w) {i : Nat} (hi : i < nR S) {q : Nat} (hq : q < rN S i) : Big G 3 0 mX10_isCrossing [.ref 1, .int (nI i), .int (nI q)] w (.inl (some (.int (bI (xs S i q))))) w := by
  refine big_of (by decide +kernel) (Nat.le_of_ble_eq_true rfl) ?_
  have hS0 := hS
  have hv := rv_ hS.2 hi
  obtain ⟨⟨hO, hC, hR, hRv, hD, hDv, hM⟩, hk1, hk2, hk3, hk4⟩ := hS
  show Ev G 3 0 mX10_isCrossing 0 [some (.ref 1), some (.int (nI i)), some (.int (nI q))] [] w _
  refine ev_aload_n dX10_isCrossing_0 rfl ?_
  refine ev_aload_n dX10_isCrossing_1 rfl ?_
  refine ev_iload_n dX10_isCrossing_2 rfl ?_
  refine ev_iload_n dX10_isCrossing_3 rfl ?_
  refine ev_callV kX10_9 co1 (qX1_placeOf hS0 hi (q := q) (by omega)) dX10_isCrossing_4 rfl (by decide) (by decide) rfl ?_
  refine ev_callV kX10_15 co1 (qX1_ownerAt_y hS0 (hv.2.2.2.2 q (by omega))) dX10_isCrossing_7 rfl (by decide) (by decide) rfl ?_
  refine ev_aload_n dX10_isCrossing_10 rfl ?_
  refine ev_aload_n dX10_isCrossing_11 rfl ?_
  refine ev_iload_n dX10_isCrossing_12 rfl ?_
  refine ev_iload_n dX10_isCrossing_13 rfl ?_
  refine ev_iconst dX10_isCrossing_14 ic1 ?_
  refine ev_iadd dX10_isCrossing_15 ?_
  rw [nI_add]
  refine ev_callV kX10_9 co1 (qX1_placeOf hS0 hi (q := q + 1) (by omega)) dX10_isCrossing_16 rfl (by decide) (by decide) rfl ?_
  refine ev_callV kX10_15 co1 (qX1_ownerAt_y hS0 (hv.2.2.2.2 (q + 1) (by omega))) dX10_isCrossing_19 rfl (by decide) (by decide) rfl ?_
  refine ev_icmp_eq (tgt := 29) dX10_isCrossing_22 (by decide) (fun hc22 => ?_) (fun hc22 => ?_)
  · have e : xs S i q = false := by simp [xs, hc22]
    refine ev_iconst dX10_isCrossing_29 ic0 ?_
    exact ev_iret dX10_isCrossing_30 rfl (by decide) (by first | exact obF e | exact obT e) rfl
  · have e : xs S i q = true := by simp [xs, hc22]
    refine ev_iconst dX10_isCrossing_25 ic1 ?_
    refine ev_goto (tgt := 30) dX10_isCrossing_26 (by decide) ?_
    exact ev_iret dX10_isCrossing_30 rfl (by decide) (by first | exact obF e | exact obT e) rfl
set_option maxRecDepth 4000 in
theorem qX10_crossings {G : GX} {w : WS} {S : ST} (hS : cm_ S w) {i : Nat} (hi : i < nR S) : Big G 4 0 mX10_crossings [.ref 1, .int (nI i)] w (.inl (some (.int (nI (ct (xs S i) (rN S i)))))) w := by
  refine big_of (by decide +kernel) (Nat.le_of_ble_eq_true rfl) ?_
  have hS0 := hS
  have hv := rv_ hS.2 hi
  obtain ⟨⟨hO, hC, hR, hRv, hD, hDv, hM⟩, hk1, hk2, hk3, hk4⟩ := hS
  show Ev G 4 0 mX10_crossings 0 [some (.ref 1), some (.int (nI i)), none, none] [] w _
  refine ev_iconst dX10_crossings_0 ic0 ?_
  refine ev_ist2 dX10_crossings_1 (by decide) rfl ?_
  refine ev_iconst dX10_crossings_2 ic0 ?_
  refine ev_ist3 dX10_crossings_3 (by decide) rfl ?_
  have lp : ∀ (n q : Nat) , q + n = rN S i → Ev G 4 0 mX10_crossings 4 [some (.ref 1), some (.int (nI i)), some (.int (nI (ct (xs S i) q))), some (.int (nI q))] [] w (zu_ G (.inl (some (.int (nI (ct (xs S i) (rN S i)))))) w) := by
    intro n
    induction n with
    | zero =>
      intro q  hq9 
      refine ev_iload_n dX10_crossings_4 rfl ?_
      refine ev_aload_n dX10_crossings_5 rfl ?_
      refine ev_iload_n dX10_crossings_6 rfl ?_
      refine ev_callV kX10_19 co1 (qX1_stepsOf hS0 hi) dX10_crossings_7 rfl (by decide) (by decide) rfl ?_
      refine ev_icmp_ge_t (tgt := 31) dX10_crossings_10 (by decide) (nI_le (by omega) (by omega)) ?_
      refine ev_iload_n dX10_crossings_31 rfl ?_
      exact ev_iret dX10_crossings_32 rfl rfl (oN (by rw [show q = rN S i by omega])) rfl
    | succ n ih =>
      intro q  hq9 
      refine ev_iload_n dX10_crossings_4 rfl ?_
      refine ev_aload_n dX10_crossings_5 rfl ?_
      refine ev_iload_n dX10_crossings_6 rfl ?_
      refine ev_callV kX10_19 co1 (qX1_stepsOf hS0 hi) dX10_crossings_7 rfl (by decide) (by decide) rfl ?_
      refine ev_icmp_ge_f (tgt := 31) dX10_crossings_10 (by decide) (nI_ge (by omega) (by omega)) ?_
      refine ev_aload_n dX10_crossings_13 rfl ?_
      refine ev_iload_n dX10_crossings_14 rfl ?_
      refine ev_iload_n dX10_crossings_15 rfl ?_
      refine ev_callS kX10_22 (qX10_isCrossing hS0 hi (q := q) (by omega)) dX10_crossings_16 rfl (by decide) (by decide) rfl ?_
      refine ev_ifb_eq (tgt := 25) dX10_crossings_19 (by decide) (fun hc19 => ?_) (fun hc19 => ?_)
      · rw [← ct_f hc19]
        refine ev_iinc3 dX10_crossings_25 (nI_inc _) (by decide) rfl ?_
        refine ev_goto (tgt := 4) dX10_crossings_28 (by decide) ?_
        exact ih (q + 1) (by omega)
      · refine ev_iinc2 dX10_crossings_22 (nI_inc _) (by decide) rfl ?_
        rw [← ct_t hc19]
        refine ev_iinc3 dX10_crossings_25 (nI_inc _) (by decide) rfl ?_
        refine ev_goto (tgt := 4) dX10_crossings_28 (by decide) ?_
        exact ih (q + 1) (by omega)
  exact lp (rN S i) 0 (by omega)
set_option maxRecDepth 4000 in
theorem qX10_weightByCells {G : GX} {w : WS} {S : ST} (hS : cm_ S w) {i : Nat} (hi : i < nR S) : Big G 4 0 mX10_weightByCells [.ref 1, .int (nI i)] w (.inl (some (.int (nI (wgt S i))))) w := by
  refine big_of (by decide +kernel) (Nat.le_of_ble_eq_true rfl) ?_
  have hS0 := hS
  have hv := rv_ hS.2 hi
  obtain ⟨⟨hO, hC, hR, hRv, hD, hDv, hM⟩, hk1, hk2, hk3, hk4⟩ := hS
  show Ev G 4 0 mX10_weightByCells 0 [some (.ref 1), some (.int (nI i)), none, none] [] w _
  refine ev_iconst dX10_weightByCells_0 ic0 ?_
  refine ev_ist2 dX10_weightByCells_1 (by decide) rfl ?_
  refine ev_iconst dX10_weightByCells_2 ic0 ?_
  refine ev_ist3 dX10_weightByCells_3 (by decide) rfl ?_
  have lp : ∀ (n q : Nat) , q + n = rN S i + 1 → Ev G 4 0 mX10_weightByCells 4 [some (.ref 1), some (.int (nI i)), some (.int (nI (sm (wf S i) q + 3 * ct (xs S i) (q - 1)))), some (.int (nI q))] [] w (zu_ G (.inl (some (.int (nI (wgt S i))))) w) := by
    intro n
    induction n with
    | zero =>
      intro q  hq9 
      refine ev_iload_n dX10_weightByCells_4 rfl ?_
      refine ev_aload_n dX10_weightByCells_5 rfl ?_
      refine ev_iload_n dX10_weightByCells_6 rfl ?_
      refine ev_callV kX10_19 co1 (qX1_stepsOf hS0 hi) dX10_weightByCells_7 rfl (by decide) (by decide) rfl ?_
      refine ev_icmp_gt_t (tgt := 59) dX10_weightByCells_10 (by decide) ((pk_lt' (by omega) (by omega)).mpr (by omega)) ?_
      refine ev_iload_n dX10_weightByCells_59 rfl ?_
      exact ev_iret dX10_weightByCells_60 rfl rfl (oN (by rw [show q = rN S i + 1 by omega]; rfl)) rfl
    | succ n ih =>
      intro q  hq9 
      refine ev_iload_n dX10_weightByCells_4 rfl ?_
      refine ev_aload_n dX10_weightByCells_5 rfl ?_
      refine ev_iload_n dX10_weightByCells_6 rfl ?_
      refine ev_callV kX10_19 co1 (qX1_stepsOf hS0 hi) dX10_weightByCells_7 rfl (by decide) (by decide) rfl ?_
      refine ev_icmp_gt_f (tgt := 59) dX10_weightByCells_10 (by decide) (nI_gtf (by omega) (by omega)) ?_
      refine ev_iload_n dX10_weightByCells_13 rfl ?_
      refine ev_aload_n dX10_weightByCells_14 rfl ?_
      refine ev_aload_n dX10_weightByCells_15 rfl ?_
      refine ev_iload_n dX10_weightByCells_16 rfl ?_
      refine ev_iload_n dX10_weightByCells_17 rfl ?_
      refine ev_callV kX10_9 co1 (qX1_placeOf hS0 hi (q := q) (by omega)) dX10_weightByCells_18 rfl (by decide) (by decide) rfl ?_
      refine ev_callV kX10_15 co1 (qX1_ownerAt_y hS0 (hv.2.2.2.2 q (by omega))) dX10_weightByCells_21 rfl (by decide) (by decide) rfl ?_
      refine ev_iconst dX10_weightByCells_24 icm1 ?_
      refine ev_icmp_ne (tgt := 32) dX10_weightByCells_25 (by decide) (fun hc25 => ?_) (fun hc25 => ?_)
      · have e2 : sm (wf S i) q + 3 * ct (xs S i) (q - 1) + 2 = sm (wf S i) q + 3 * ct (xs S i) (q - 1) + wf S i q := by simp [wf, hc25]
        refine ev_iconst dX10_weightByCells_32 ic2 ?_
        refine ev_iadd dX10_weightByCells_33 ?_
        rw [nI_add, e2]
        refine ev_ist2 dX10_weightByCells_34 (by decide) rfl ?_
        refine ev_iload_n dX10_weightByCells_35 rfl ?_
        refine ev_if_le (tgt := 53) dX10_weightByCells_36 (by decide) (fun hc36 => ?_) (fun hc36 => ?_)
        · have e0 : q = 0 := (le0 (by omega)).mp hc36
          rw [show sm (wf S i) q + 3 * ct (xs S i) (q - 1) + wf S i q = sm (wf S i) (q + 1) + 3 * ct (xs S i) (q + 1 - 1) by subst e0; simp [sm, ct]]
          refine ev_iinc3 dX10_weightByCells_53 (nI_inc _) (by decide) rfl ?_
          refine ev_goto (tgt := 4) dX10_weightByCells_56 (by decide) ?_
          exact ih (q + 1) (by omega)
        · have e0 : 0 < q := Nat.pos_of_ne_zero (fun e0 => hc36 ((le0 (by omega)).mpr e0))
          refine ev_aload_n dX10_weightByCells_39 rfl ?_
          refine ev_iload_n dX10_weightByCells_40 rfl ?_
          refine ev_iload_n dX10_weightByCells_41 rfl ?_
          refine ev_iconst dX10_weightByCells_42 ic1 ?_
          refine ev_isub dX10_weightByCells_43 ?_
          rw [pk_sub e0]
          refine ev_callS kX10_22 (qX10_isCrossing hS0 hi (q := q - 1) (by omega)) dX10_weightByCells_44 rfl (by decide) (by decide) rfl ?_
          refine ev_ifb_eq (tgt := 53) dX10_weightByCells_47 (by decide) (fun hc47 => ?_) (fun hc47 => ?_)
          · rw [show sm (wf S i) q + 3 * ct (xs S i) (q - 1) + wf S i q = sm (wf S i) (q + 1) + 3 * ct (xs S i) (q + 1 - 1) by rw [sm_s, show q + 1 - 1 = q - 1 + 1 by omega, ct_f hc47]; omega]
            refine ev_iinc3 dX10_weightByCells_53 (nI_inc _) (by decide) rfl ?_
            refine ev_goto (tgt := 4) dX10_weightByCells_56 (by decide) ?_
            exact ih (q + 1) (by omega)
          · refine ev_iinc2 dX10_weightByCells_50 (nI_add _ 3) (by decide) rfl ?_
            rw [show sm (wf S i) q + 3 * ct (xs S i) (q - 1) + wf S i q + 3 = sm (wf S i) (q + 1) + 3 * ct (xs S i) (q + 1 - 1) by rw [sm_s, show q + 1 - 1 = q - 1 + 1 by omega, ct_t hc47]; omega]
            refine ev_iinc3 dX10_weightByCells_53 (nI_inc _) (by decide) rfl ?_
            refine ev_goto (tgt := 4) dX10_weightByCells_56 (by decide) ?_
            exact ih (q + 1) (by omega)
      · have e2 : sm (wf S i) q + 3 * ct (xs S i) (q - 1) + 1 = sm (wf S i) q + 3 * ct (xs S i) (q - 1) + wf S i q := by simp [wf, hc25]
        refine ev_iconst dX10_weightByCells_28 ic1 ?_
        refine ev_goto (tgt := 33) dX10_weightByCells_29 (by decide) ?_
        refine ev_iadd dX10_weightByCells_33 ?_
        rw [nI_add, e2]
        refine ev_ist2 dX10_weightByCells_34 (by decide) rfl ?_
        refine ev_iload_n dX10_weightByCells_35 rfl ?_
        refine ev_if_le (tgt := 53) dX10_weightByCells_36 (by decide) (fun hc36 => ?_) (fun hc36 => ?_)
        · have e0 : q = 0 := (le0 (by omega)).mp hc36
          rw [show sm (wf S i) q + 3 * ct (xs S i) (q - 1) + wf S i q = sm (wf S i) (q + 1) + 3 * ct (xs S i) (q + 1 - 1) by subst e0; simp [sm, ct]]
          refine ev_iinc3 dX10_weightByCells_53 (nI_inc _) (by decide) rfl ?_
          refine ev_goto (tgt := 4) dX10_weightByCells_56 (by decide) ?_
          exact ih (q + 1) (by omega)
        · have e0 : 0 < q := Nat.pos_of_ne_zero (fun e0 => hc36 ((le0 (by omega)).mpr e0))
          refine ev_aload_n dX10_weightByCells_39 rfl ?_
          refine ev_iload_n dX10_weightByCells_40 rfl ?_
          refine ev_iload_n dX10_weightByCells_41 rfl ?_
          refine ev_iconst dX10_weightByCells_42 ic1 ?_
          refine ev_isub dX10_weightByCells_43 ?_
          rw [pk_sub e0]
          refine ev_callS kX10_22 (qX10_isCrossing hS0 hi (q := q - 1) (by omega)) dX10_weightByCells_44 rfl (by decide) (by decide) rfl ?_
          refine ev_ifb_eq (tgt := 53) dX10_weightByCells_47 (by decide) (fun hc47 => ?_) (fun hc47 => ?_)
          · rw [show sm (wf S i) q + 3 * ct (xs S i) (q - 1) + wf S i q = sm (wf S i) (q + 1) + 3 * ct (xs S i) (q + 1 - 1) by rw [sm_s, show q + 1 - 1 = q - 1 + 1 by omega, ct_f hc47]; omega]
            refine ev_iinc3 dX10_weightByCells_53 (nI_inc _) (by decide) rfl ?_
            refine ev_goto (tgt := 4) dX10_weightByCells_56 (by decide) ?_
            exact ih (q + 1) (by omega)
          · refine ev_iinc2 dX10_weightByCells_50 (nI_add _ 3) (by decide) rfl ?_
            rw [show sm (wf S i) q + 3 * ct (xs S i) (q - 1) + wf S i q + 3 = sm (wf S i) (q + 1) + 3 * ct (xs S i) (q + 1 - 1) by rw [sm_s, show q + 1 - 1 = q - 1 + 1 by omega, ct_t hc47]; omega]
            refine ev_iinc3 dX10_weightByCells_53 (nI_inc _) (by decide) rfl ?_
            refine ev_goto (tgt := 4) dX10_weightByCells_56 (by decide) ?_
            exact ih (q + 1) (by omega)
  exact lp (rN S i + 1) 0 (by omega)
set_option maxRecDepth 4000 in
theorem qX10_cellsOfRealm {G : GX} {w : WS} {S : ST} (hS : cm_ S w) {i : Nat} (hi : i < nR S) {r : Int32} : Big G 3 0 mX10_cellsOfRealm [.ref 1, .int (nI i), .int r] w (.inl (some (.int (nI (cR S i r))))) w := by
  refine big_of (by decide +kernel) (Nat.le_of_ble_eq_true rfl) ?_
  have hS0 := hS
  have hv := rv_ hS.2 hi
  obtain ⟨⟨hO, hC, hR, hRv, hD, hDv, hM⟩, hk1, hk2, hk3, hk4⟩ := hS
  show Ev G 3 0 mX10_cellsOfRealm 0 [some (.ref 1), some (.int (nI i)), some (.int r), none, none] [] w _
  refine ev_iconst dX10_cellsOfRealm_0 ic0 ?_
  refine ev_ist3 dX10_cellsOfRealm_1 (by decide) rfl ?_
  refine ev_iconst dX10_cellsOfRealm_2 ic0 ?_
  refine ev_ist4 dX10_cellsOfRealm_3 (by decide) rfl ?_
  have lp : ∀ (n q : Nat) , q + n = rN S i + 1 → Ev G 3 0 mX10_cellsOfRealm 5 [some (.ref 1), some (.int (nI i)), some (.int r), some (.int (nI (ct (fun p => sO S (rP S i p) == r) q))), some (.int (nI q))] [] w (zu_ G (.inl (some (.int (nI (cR S i r))))) w) := by
    intro n
    induction n with
    | zero =>
      intro q  hq9 
      refine ev_iload dX10_cellsOfRealm_5 rfl ?_
      refine ev_aload_n dX10_cellsOfRealm_7 rfl ?_
      refine ev_iload_n dX10_cellsOfRealm_8 rfl ?_
      refine ev_callV kX10_19 co1 (qX1_stepsOf hS0 hi) dX10_cellsOfRealm_9 rfl (by decide) (by decide) rfl ?_
      refine ev_icmp_gt_t (tgt := 39) dX10_cellsOfRealm_12 (by decide) ((pk_lt' (by omega) (by omega)).mpr (by omega)) ?_
      refine ev_iload_n dX10_cellsOfRealm_39 rfl ?_
      exact ev_iret dX10_cellsOfRealm_40 rfl rfl (oN (by rw [show q = rN S i + 1 by omega]; rfl)) rfl
    | succ n ih =>
      intro q  hq9 
      refine ev_iload dX10_cellsOfRealm_5 rfl ?_
      refine ev_aload_n dX10_cellsOfRealm_7 rfl ?_
      refine ev_iload_n dX10_cellsOfRealm_8 rfl ?_
      refine ev_callV kX10_19 co1 (qX1_stepsOf hS0 hi) dX10_cellsOfRealm_9 rfl (by decide) (by decide) rfl ?_
      refine ev_icmp_gt_f (tgt := 39) dX10_cellsOfRealm_12 (by decide) (nI_gtf (by omega) (by omega)) ?_
      refine ev_aload_n dX10_cellsOfRealm_15 rfl ?_
      refine ev_aload_n dX10_cellsOfRealm_16 rfl ?_
      refine ev_iload_n dX10_cellsOfRealm_17 rfl ?_
      refine ev_iload dX10_cellsOfRealm_18 rfl ?_
      refine ev_callV kX10_9 co1 (qX1_placeOf hS0 hi (q := q) (by omega)) dX10_cellsOfRealm_20 rfl (by decide) (by decide) rfl ?_
      refine ev_callV kX10_15 co1 (qX1_ownerAt_y hS0 (hv.2.2.2.2 q (by omega))) dX10_cellsOfRealm_23 rfl (by decide) (by decide) rfl ?_
      refine ev_iload_n dX10_cellsOfRealm_26 rfl ?_
      refine ev_icmp_ne (tgt := 33) dX10_cellsOfRealm_27 (by decide) (fun hc27 => ?_) (fun hc27 => ?_)
      · rw [← ct_f (p := (fun p => sO S (rP S i p) == r)) (n := q) (by simpa using hc27)]
        refine ev_iinc4 dX10_cellsOfRealm_33 (nI_inc _) (by decide) rfl ?_
        refine ev_goto (tgt := 5) dX10_cellsOfRealm_36 (by decide) ?_
        exact ih (q + 1) (by omega)
      · refine ev_iinc3 dX10_cellsOfRealm_30 (nI_inc _) (by decide) rfl ?_
        rw [← ct_t (p := (fun p => sO S (rP S i p) == r)) (n := q) (by simpa using hc27)]
        refine ev_iinc4 dX10_cellsOfRealm_33 (nI_inc _) (by decide) rfl ?_
        refine ev_goto (tgt := 5) dX10_cellsOfRealm_36 (by decide) ?_
        exact ih (q + 1) (by omega)
  exact lp (rN S i + 1) 0 (by omega)
set_option maxRecDepth 4000 in
theorem qX10_stepsInRealm {G : GX} {w : WS} {S : ST} (hS : cm_ S w) {i : Nat} (hi : i < nR S) {r : Int32} : Big G 3 0 mX10_stepsInRealm [.ref 1, .int (nI i), .int r] w (.inl (some (.int (nI (tR S i r))))) w := by
  refine big_of (by decide +kernel) (Nat.le_of_ble_eq_true rfl) ?_
  have hS0 := hS
  have hv := rv_ hS.2 hi
  obtain ⟨⟨hO, hC, hR, hRv, hD, hDv, hM⟩, hk1, hk2, hk3, hk4⟩ := hS
  show Ev G 3 0 mX10_stepsInRealm 0 [some (.ref 1), some (.int (nI i)), some (.int r), none, none] [] w _
  refine ev_iconst dX10_stepsInRealm_0 ic0 ?_
  refine ev_ist3 dX10_stepsInRealm_1 (by decide) rfl ?_
  refine ev_iconst dX10_stepsInRealm_2 ic0 ?_
  refine ev_ist4 dX10_stepsInRealm_3 (by decide) rfl ?_
  have lp : ∀ (n q : Nat) , q + n = rN S i → Ev G 3 0 mX10_stepsInRealm 5 [some (.ref 1), some (.int (nI i)), some (.int r), some (.int (nI (ct (fun p => sO S (rP S i p) == r && sO S (rP S i (p + 1)) == r) q))), some (.int (nI q))] [] w (zu_ G (.inl (some (.int (nI (tR S i r))))) w) := by
    intro n
    induction n with
    | zero =>
      intro q  hq9 
      refine ev_iload dX10_stepsInRealm_5 rfl ?_
      refine ev_aload_n dX10_stepsInRealm_7 rfl ?_
      refine ev_iload_n dX10_stepsInRealm_8 rfl ?_
      refine ev_callV kX10_19 co1 (qX1_stepsOf hS0 hi) dX10_stepsInRealm_9 rfl (by decide) (by decide) rfl ?_
      refine ev_icmp_ge_t (tgt := 56) dX10_stepsInRealm_12 (by decide) (nI_le (by omega) (by omega)) ?_
      refine ev_iload_n dX10_stepsInRealm_56 rfl ?_
      exact ev_iret dX10_stepsInRealm_57 rfl rfl (oN (by rw [show q = rN S i by omega]; rfl)) rfl
    | succ n ih =>
      intro q  hq9 
      refine ev_iload dX10_stepsInRealm_5 rfl ?_
      refine ev_aload_n dX10_stepsInRealm_7 rfl ?_
      refine ev_iload_n dX10_stepsInRealm_8 rfl ?_
      refine ev_callV kX10_19 co1 (qX1_stepsOf hS0 hi) dX10_stepsInRealm_9 rfl (by decide) (by decide) rfl ?_
      refine ev_icmp_ge_f (tgt := 56) dX10_stepsInRealm_12 (by decide) (nI_ge (by omega) (by omega)) ?_
      refine ev_aload_n dX10_stepsInRealm_15 rfl ?_
      refine ev_aload_n dX10_stepsInRealm_16 rfl ?_
      refine ev_iload_n dX10_stepsInRealm_17 rfl ?_
      refine ev_iload dX10_stepsInRealm_18 rfl ?_
      refine ev_callV kX10_9 co1 (qX1_placeOf hS0 hi (q := q) (by omega)) dX10_stepsInRealm_20 rfl (by decide) (by decide) rfl ?_
      refine ev_callV kX10_15 co1 (qX1_ownerAt_y hS0 (hv.2.2.2.2 q (by omega))) dX10_stepsInRealm_23 rfl (by decide) (by decide) rfl ?_
      refine ev_iload_n dX10_stepsInRealm_26 rfl ?_
      refine ev_icmp_ne (tgt := 50) dX10_stepsInRealm_27 (by decide) (fun hc27 => ?_) (fun hc27 => ?_)
      · rw [← ct_f (p := (fun p => sO S (rP S i p) == r && sO S (rP S i (p + 1)) == r)) (n := q) (by simp [hc27])]
        refine ev_iinc4 dX10_stepsInRealm_50 (nI_inc _) (by decide) rfl ?_
        refine ev_goto (tgt := 5) dX10_stepsInRealm_53 (by decide) ?_
        exact ih (q + 1) (by omega)
      · refine ev_aload_n dX10_stepsInRealm_30 rfl ?_
        refine ev_aload_n dX10_stepsInRealm_31 rfl ?_
        refine ev_iload_n dX10_stepsInRealm_32 rfl ?_
        refine ev_iload dX10_stepsInRealm_33 rfl ?_
        refine ev_iconst dX10_stepsInRealm_35 ic1 ?_
        refine ev_iadd dX10_stepsInRealm_36 ?_
        rw [nI_add]
        refine ev_callV kX10_9 co1 (qX1_placeOf hS0 hi (q := q + 1) (by omega)) dX10_stepsInRealm_37 rfl (by decide) (by decide) rfl ?_
        refine ev_callV kX10_15 co1 (qX1_ownerAt_y hS0 (hv.2.2.2.2 (q + 1) (by omega))) dX10_stepsInRealm_40 rfl (by decide) (by decide) rfl ?_
        refine ev_iload_n dX10_stepsInRealm_43 rfl ?_
        refine ev_icmp_ne (tgt := 50) dX10_stepsInRealm_44 (by decide) (fun hc44 => ?_) (fun hc44 => ?_)
        · rw [← ct_f (p := (fun p => sO S (rP S i p) == r && sO S (rP S i (p + 1)) == r)) (n := q) (by simp [hc44])]
          refine ev_iinc4 dX10_stepsInRealm_50 (nI_inc _) (by decide) rfl ?_
          refine ev_goto (tgt := 5) dX10_stepsInRealm_53 (by decide) ?_
          exact ih (q + 1) (by omega)
        · refine ev_iinc3 dX10_stepsInRealm_47 (nI_inc _) (by decide) rfl ?_
          rw [← ct_t (p := (fun p => sO S (rP S i p) == r && sO S (rP S i (p + 1)) == r)) (n := q) (by simp [hc27, hc44])]
          refine ev_iinc4 dX10_stepsInRealm_50 (nI_inc _) (by decide) rfl ?_
          refine ev_goto (tgt := 5) dX10_stepsInRealm_53 (by decide) ?_
          exact ih (q + 1) (by omega)
  exact lp (rN S i) 0 (by omega)
set_option maxRecDepth 4000 in
theorem qX10_throughRealm {G : GX} {w : WS} {S : ST} (hS : cm_ S w) {r : Int32} : Big G 4 0 mX10_throughRealm [.ref 1, .int r] w (.inl (some (.int (nI (thr S r))))) w := by
  refine big_of (by decide +kernel) (Nat.le_of_ble_eq_true rfl) ?_
  have hS0 := hS
  obtain ⟨⟨hO, hC, hR, hRv, hD, hDv, hM⟩, hk1, hk2, hk3, hk4⟩ := hS
  show Ev G 4 0 mX10_throughRealm 0 [some (.ref 1), some (.int r), none, none] [] w _
  refine ev_iconst dX10_throughRealm_0 ic0 ?_
  refine ev_ist2 dX10_throughRealm_1 (by decide) rfl ?_
  refine ev_iconst dX10_throughRealm_2 ic0 ?_
  refine ev_ist3 dX10_throughRealm_3 (by decide) rfl ?_
  have h5 := hk2.1
  have lp : ∀ (n i : Nat) , i + n = nR S → Ev G 4 0 mX10_throughRealm 4 [some (.ref 1), some (.int r), some (.int (nI (ct (fun i => decide (0 < cR S i r)) i))), some (.int (nI i))] [] w (zu_ G (.inl (some (.int (nI (thr S r))))) w) := by
    intro n
    induction n with
    | zero =>
      intro i  hi 
      refine ev_iload_n dX10_throughRealm_4 rfl ?_
      refine ev_aload_n dX10_throughRealm_5 rfl ?_
      refine ev_getI fX10_35 dX10_throughRealm_6 (by decide) sh1 rfl ?_
      rw [hR]
      refine ev_icmp_ge_t (tgt := 30) dX10_throughRealm_9 (by decide) (nI_le (by omega) (by omega)) ?_
      refine ev_iload_n dX10_throughRealm_30 rfl ?_
      exact ev_iret dX10_throughRealm_31 rfl rfl (oN (by rw [show i = nR S by omega]; rfl)) rfl
    | succ n ih =>
      intro i  hi 
      refine ev_iload_n dX10_throughRealm_4 rfl ?_
      refine ev_aload_n dX10_throughRealm_5 rfl ?_
      refine ev_getI fX10_35 dX10_throughRealm_6 (by decide) sh1 rfl ?_
      rw [hR]
      refine ev_icmp_ge_f (tgt := 30) dX10_throughRealm_9 (by decide) (nI_ge (by omega) (by omega)) ?_
      refine ev_aload_n dX10_throughRealm_12 rfl ?_
      refine ev_iload_n dX10_throughRealm_13 rfl ?_
      refine ev_iload_n dX10_throughRealm_14 rfl ?_
      refine ev_callS kX10_28 (qX10_cellsOfRealm hS0 (i := i) (by omega)) dX10_throughRealm_15 rfl (by decide) (by decide) rfl ?_
      have hcr : cR S i r ≤ 13 := Nat.le_trans (ct_le _ _) (by have := (rv_ hS0.2 (i := i) (by omega)).2.2.2.1; omega)
      refine ev_if_le (tgt := 24) dX10_throughRealm_18 (by decide) (fun hc18 => ?_) (fun hc18 => ?_)
      · rw [← ct_f (p := (fun i => decide (0 < cR S i r))) (n := i) (by rw [(le0 (by omega)).mp hc18]; rfl)]
        refine ev_iinc3 dX10_throughRealm_24 (nI_inc _) (by decide) rfl ?_
        refine ev_goto (tgt := 4) dX10_throughRealm_27 (by decide) ?_
        exact ih (i + 1) (by omega)
      · refine ev_iinc2 dX10_throughRealm_21 (nI_inc _) (by decide) rfl ?_
        rw [← ct_t (p := (fun i => decide (0 < cR S i r))) (n := i) (by have := Nat.pos_of_ne_zero (fun e0 => hc18 ((le0 (by omega)).mpr e0)); simpa using this)]
        refine ev_iinc3 dX10_throughRealm_24 (nI_inc _) (by decide) rfl ?_
        refine ev_goto (tgt := 4) dX10_throughRealm_27 (by decide) ?_
        exact ih (i + 1) (by omega)
  exact lp (nR S) 0 (by omega)
set_option maxRecDepth 4000 in
theorem qX10_wrongBy {G : GX} {w : WS} {S : ST} (hS : cm_ S w) {i : Nat} (hi : i < nR S) {k : Nat} (hk : k ≤ 9) : Big G 3 0 mX10_wrongBy [.ref 1, .int (nI i), .int (nI k)] w (.inl (some (.int (nI (wr S k i))))) w := by
  refine big_of (by decide +kernel) (Nat.le_of_ble_eq_true rfl) ?_
  have hS0 := hS
  have hv := rv_ hS.2 hi
  obtain ⟨⟨hO, hC, hR, hRv, hD, hDv, hM⟩, hk1, hk2, hk3, hk4⟩ := hS
  show Ev G 3 0 mX10_wrongBy 0 [some (.ref 1), some (.int (nI i)), some (.int (nI k))] [] w _
  refine ev_aload_n dX10_wrongBy_0 rfl ?_
  refine ev_iload_n dX10_wrongBy_1 rfl ?_
  refine ev_callV kX10_39 co1 (qX1_toldOf hS0 hi) dX10_wrongBy_2 rfl (by decide) (by decide) rfl ?_
  refine ev_aload_n dX10_wrongBy_5 rfl ?_
  refine ev_iload_n dX10_wrongBy_6 rfl ?_
  refine ev_callV kX10_19 co1 (qX1_stepsOf hS0 hi) dX10_wrongBy_7 rfl (by decide) (by decide) rfl ?_
  refine ev_iload_n dX10_wrongBy_10 rfl ?_
  refine ev_imul dX10_wrongBy_11 ?_
  rw [pk_mul]
  refine ev_isub dX10_wrongBy_12 ?_
  refine ev_abs aX10_42 dX10_wrongBy_13 rfl ?_
  rw [abs_nI (by omega) (by have := Nat.mul_le_mul hv.2.2.2.1 hk; omega)]
  exact ev_iret dX10_wrongBy_16 rfl rfl rfl rfl
set_option maxRecDepth 4000 in
theorem qX10_allWrongBy {G : GX} {w : WS} {S : ST} (hS : cm_ S w) {k : Nat} (hk : k ≤ 9) : Big G 4 0 mX10_allWrongBy [.ref 1, .int (nI k)] w (.inl (some (.int (nI (awr S k))))) w := by
  refine big_of (by decide +kernel) (Nat.le_of_ble_eq_true rfl) ?_
  have hS0 := hS
  obtain ⟨⟨hO, hC, hR, hRv, hD, hDv, hM⟩, hk1, hk2, hk3, hk4⟩ := hS
  show Ev G 4 0 mX10_allWrongBy 0 [some (.ref 1), some (.int (nI k)), none, none] [] w _
  refine ev_iconst dX10_allWrongBy_0 ic0 ?_
  refine ev_ist2 dX10_allWrongBy_1 (by decide) rfl ?_
  refine ev_iconst dX10_allWrongBy_2 ic0 ?_
  refine ev_ist3 dX10_allWrongBy_3 (by decide) rfl ?_
  have h5 := hk2.1
  have lp : ∀ (n i : Nat) , i + n = nR S → Ev G 4 0 mX10_allWrongBy 4 [some (.ref 1), some (.int (nI k)), some (.int (nI (sm (wr S k) i))), some (.int (nI i))] [] w (zu_ G (.inl (some (.int (nI (awr S k))))) w) := by
    intro n
    induction n with
    | zero =>
      intro i  hi 
      refine ev_iload_n dX10_allWrongBy_4 rfl ?_
      refine ev_aload_n dX10_allWrongBy_5 rfl ?_
      refine ev_getI fX10_35 dX10_allWrongBy_6 (by decide) sh1 rfl ?_
      rw [hR]
      refine ev_icmp_ge_t (tgt := 27) dX10_allWrongBy_9 (by decide) (nI_le (by omega) (by omega)) ?_
      refine ev_iload_n dX10_allWrongBy_27 rfl ?_
      exact ev_iret dX10_allWrongBy_28 rfl rfl (oN (by rw [show i = nR S by omega]; rfl)) rfl
    | succ n ih =>
      intro i  hi 
      refine ev_iload_n dX10_allWrongBy_4 rfl ?_
      refine ev_aload_n dX10_allWrongBy_5 rfl ?_
      refine ev_getI fX10_35 dX10_allWrongBy_6 (by decide) sh1 rfl ?_
      rw [hR]
      refine ev_icmp_ge_f (tgt := 27) dX10_allWrongBy_9 (by decide) (nI_ge (by omega) (by omega)) ?_
      refine ev_iload_n dX10_allWrongBy_12 rfl ?_
      refine ev_aload_n dX10_allWrongBy_13 rfl ?_
      refine ev_iload_n dX10_allWrongBy_14 rfl ?_
      refine ev_iload_n dX10_allWrongBy_15 rfl ?_
      refine ev_callS kX10_47 (qX10_wrongBy hS0 (i := i) (by omega) hk) dX10_allWrongBy_16 rfl (by decide) (by decide) rfl ?_
      refine ev_iadd dX10_allWrongBy_19 ?_
      rw [nI_add, ← sm_s]
      refine ev_ist2 dX10_allWrongBy_20 (by decide) rfl ?_
      refine ev_iinc3 dX10_allWrongBy_21 (nI_inc _) (by decide) rfl ?_
      refine ev_goto (tgt := 4) dX10_allWrongBy_24 (by decide) ?_
      exact ih (i + 1) (by omega)
  exact lp (nR S) 0 (by omega)
