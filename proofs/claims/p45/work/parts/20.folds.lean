/-! borders and folds of the class, weights by realms -/
def r5 (f : Int32) : Prop := f = -1 ∨ ∃ k, k < 4 ∧ f = nI k
theorem r5_cases {x : Int32} (h : r5 x) : x = -1 ∨ x = nI 0 ∨ x = nI 1 ∨ x = nI 2 ∨ x = nI 3 := by
  rcases h with h | ⟨k, hk, h⟩
  · exact Or.inl h
  · match k, hk with
    | 0, _ => exact Or.inr (Or.inl h)
    | 1, _ => exact Or.inr (Or.inr (Or.inl h))
    | 2, _ => exact Or.inr (Or.inr (Or.inr (Or.inl h)))
    | 3, _ => exact Or.inr (Or.inr (Or.inr (Or.inr h)))
theorem b5 : ((-1 : Int32) == nI 0) = false ∧ ((-1 : Int32) == nI 1) = false ∧ ((-1 : Int32) == nI 2) = false ∧ ((-1 : Int32) == nI 3) = false ∧ (nI 0 == (-1 : Int32)) = false ∧ (nI 1 == (-1 : Int32)) = false ∧ (nI 2 == (-1 : Int32)) = false ∧ (nI 3 == (-1 : Int32)) = false ∧
  (nI 0 == nI 1) = false ∧ (nI 0 == nI 2) = false ∧ (nI 0 == nI 3) = false ∧ (nI 1 == nI 0) = false ∧ (nI 1 == nI 2) = false ∧ (nI 1 == nI 3) = false ∧ (nI 2 == nI 0) = false ∧ (nI 2 == nI 1) = false ∧ (nI 2 == nI 3) = false ∧ (nI 3 == nI 0) = false ∧ (nI 3 == nI 1) = false ∧ (nI 3 == nI 2) = false := by decide
theorem ct5 {f g : Nat → Int32} {n : Nat} (hf : ∀ i, i < n → r5 (f i)) (hg : ∀ i, i < n → r5 (g i)) : ct (fun i => f i == -1 && g i == -1) n + ct (fun i => f i == nI 0 && g i == nI 0) n + ct (fun i => f i == nI 1 && g i == nI 1) n + ct (fun i => f i == nI 2 && g i == nI 2) n + ct (fun i => f i == nI 3 && g i == nI 3) n + ct (fun i => f i != g i) n = n := by
  induction n with
  | zero => rfl
  | succ n ih =>
    have ih := ih (fun i hi => hf i (by omega)) (fun i hi => hg i (by omega))
    have key : (if (f n == -1 && g n == -1) = true then 1 else 0) + (if (f n == nI 0 && g n == nI 0) = true then 1 else 0) + (if (f n == nI 1 && g n == nI 1) = true then 1 else 0) + (if (f n == nI 2 && g n == nI 2) = true then 1 else 0) + (if (f n == nI 3 && g n == nI 3) = true then 1 else 0) + (if (f n != g n) = true then 1 else 0) = 1 := by
      obtain ⟨b1, b2, b3, b4, b6, b7, b8, b9, b10, b11, b12, b13, b14, b15, b16, b17, b18, b19, b20, b21⟩ := b5
      rcases r5_cases (hf n (by omega)) with h | h | h | h | h <;> rcases r5_cases (hg n (by omega)) with h' | h' | h' | h' | h' <;> rw [h, h'] <;> simp only [bne, b1, b2, b3, b4, b6, b7, b8, b9, b10, b11, b12, b13, b14, b15, b16, b17, b18, b19, b20, b21, beq_self_eq_true, Bool.and_self, Bool.and_false, Bool.false_and, Bool.not_true, Bool.not_false, if_true] <;> rfl
    simp only [ct_s]
    omega
theorem ct5e {f : Nat → Int32} {n : Nat} (hf : ∀ i, i < n → r5 (f i)) : ct (fun i => f i == -1) n + ct (fun i => f i == nI 0) n + ct (fun i => f i == nI 1) n + ct (fun i => f i == nI 2) n + ct (fun i => f i == nI 3) n = n := by
  have h := ct5 hf hf
  have h2 : ct (fun i => f i != f i) n = 0 := by
    rw [ct_congr (q := fun _ => false) (fun i _ => by simp)]
    clear h hf
    induction n with
    | zero => rfl
    | succ n ih => rw [ct_f rfl]; exact ih
  rw [h2] at h
  simp only [Bool.and_self] at h
  exact h
theorem mn_ {a b : Nat} (ha : a < 2 ^ 31) (hb : b < 2 ^ 31) : (if nI b < nI a then nI b else nI a) = nI (min a b) := by
  by_cases h : b < a
  · rw [if_pos ((pk_lt' hb ha).mpr h)]; congr 1; omega
  · rw [if_neg (fun q => h ((pk_lt' hb ha).mp q))]; congr 1; omega
def prf (S : ST) (r n : Int32) (c : Nat) : Nat := if sO S c = r then (if oo (sO S) (nb c 1) = n then 1 else 0) + (if oo (sO S) (nb c 2) = n then 1 else 0) else 0
def prs (S : ST) (r n : Int32) : Nat := sm (prf S r n) 64
theorem prs_le (S : ST) (r n : Int32) : prs S r n ≤ 128 := by
  have := sm_le (f := prf S r n) (b := 2) (n := 64) (fun i _ => by unfold prf; split <;> (repeat' split) <;> omega)
  exact this
def sbf (S : ST) (r : Int32) (c : Nat) : Nat := if sO S c = r then ct (fun d => oo (sO S) (nb c d) != r) 4 else 0
def sbs (S : ST) (r : Int32) : Nat := sm (sbf S r) 64
theorem sbs_le (S : ST) (r : Int32) : sbs S r ≤ 256 := by
  have := sm_le (f := sbf S r) (b := 4) (n := 64) (fun i _ => by unfold sbf; split; exact ct_le _ _; omega)
  exact this
/-- folds -/
def dp_ (c : Nat) : Nat := min c (8 - c)
def ix_ (b : Bool) (x y : Nat) : Nat := if b then x * 8 + y else y * 8 + x
theorem ix_lt {b : Bool} {x y : Nat} (hx : x < 8) (hy : y < 8) : ix_ b x y < 64 := by unfold ix_; split <;> omega
def lyf (S : ST) (b : Bool) (c k y : Nat) : Bool := sO S (ix_ b (c - 1 - k) y) != sO S (ix_ b (c + k) y)
def lyk (S : ST) (b : Bool) (c k : Nat) : Nat := ct (lyf S b c k) 8
def lys (S : ST) (b : Bool) (c : Nat) : Nat := sm (lyk S b c) (dp_ c)
def akk (S : ST) (b : Bool) (c : Nat) (r : Int32) (k : Nat) : Nat := ct (fun y => sO S (ix_ b (c - 1 - k) y) == r && sO S (ix_ b (c + k) y) == r) 8
def aks (S : ST) (b : Bool) (c : Nat) (r : Int32) : Nat := sm (akk S b c r) (dp_ c)
theorem dp_le {c : Nat} (h : c ≤ 7) : dp_ c ≤ 4 := by unfold dp_; omega
theorem lys_le {S : ST} {b : Bool} {c : Nat} (h : c ≤ 7) : lys S b c ≤ 32 := by
  have := sm_le (f := lyk S b c) (b := 8) (n := dp_ c) (fun i _ => ct_le _ _)
  have := dp_le h
  unfold lys
  omega
theorem aks_sum {S : ST} (hS : okS S) {b : Bool} {c : Nat} (h1 : 1 ≤ c) (h : c ≤ 7) : aks S b c (-1) + aks S b c (nI 0) + aks S b c (nI 1) + aks S b c (nI 2) + aks S b c (nI 3) + lys S b c = 8 * dp_ c := by
  have key : ∀ n, n ≤ dp_ c → sm (akk S b c (-1)) n + sm (akk S b c (nI 0)) n + sm (akk S b c (nI 1)) n + sm (akk S b c (nI 2)) n + sm (akk S b c (nI 3)) n + sm (lyk S b c) n = 8 * n := by
    intro n
    induction n with
    | zero => intro _; rfl
    | succ n ih =>
      intro hn
      have ih := ih (by omega)
      have hd : n < dp_ c := hn
      have h3 : dp_ c ≤ c ∧ dp_ c ≤ 8 - c := by unfold dp_; omega
      have h4 := ct5 (f := fun y => sO S (ix_ b (c - 1 - n) y)) (g := fun y => sO S (ix_ b (c + n) y)) (n := 8) (fun y hy => hS.1 _ (ix_lt (by omega) hy)) (fun y hy => hS.1 _ (ix_lt (by omega) hy))
      simp only [sm_s]
      unfold akk lyk lyf at *
      omega
  exact key _ (Nat.le_refl _)
theorem wgt_realms {S : ST} (hS : okS S) {i : Nat} (hi : i < nR S) : (cR S i (-1) + cR S i (nI 0) + cR S i (nI 1) + cR S i (nI 2) + cR S i (nI 3) = rN S i + 1) ∧ (tR S i (-1) + tR S i (nI 0) + tR S i (nI 1) + tR S i (nI 2) + tR S i (nI 3) + ct (xs S i) (rN S i) = rN S i) ∧ sm (wf S i) (rN S i + 1) + cR S i (-1) = 2 * (rN S i + 1) := by
  have hv := rv_ hS hi
  refine ⟨ct5e (fun p hp => hS.1 _ (hv.2.2.2.2 p (by omega))), ct5 (fun p hp => hS.1 _ (hv.2.2.2.2 p (by omega))) (fun p hp => hS.1 _ (hv.2.2.2.2 (p + 1) (by omega))), ?_⟩
  have key : ∀ n, sm (wf S i) n + ct (fun p => sO S (rP S i p) == -1) n = 2 * n := by
    intro n
    induction n with
    | zero => rfl
    | succ n ih =>
      rw [sm_s, ct_s]
      unfold wf at *
      by_cases h : sO S (rP S i n) = -1
      · simp [h]; omega
      · simp [h]; omega
  exact key _
set_option maxRecDepth 4000 in
theorem qX0_pairs {G : GX} {w : WS} {S : ST} (hS : cm_ S w) {r n : Int32} : Big G 3 0 mX0_pairs [.ref 1, .int r, .int n] w (.inl (some (.int (nI (prs S r n))))) w := by
  refine big_of (by decide +kernel) (Nat.le_of_ble_eq_true rfl) ?_
  have hS0 := hS
  obtain ⟨⟨hO, hC, hR, hRv, hD, hDv, hM⟩, hk1, hk2, hk3, hk4⟩ := hS
  show Ev G 3 0 mX0_pairs 0 [some (.ref 1), some (.int r), some (.int n), none, none] [] w _
  refine ev_iconst dX0_pairs_0 ic0 ?_
  refine ev_ist3 dX0_pairs_1 (by decide) rfl ?_
  refine ev_iconst dX0_pairs_2 ic0 ?_
  refine ev_ist4 dX0_pairs_3 (by decide) rfl ?_
  have lp : ∀ (n9 i : Nat) , i + n9 = 64 → Ev G 3 0 mX0_pairs 5 [some (.ref 1), some (.int r), some (.int n), some (.int (nI (sm (prf S r n) i))), some (.int (nI i))] [] w (zu_ G (.inl (some (.int (nI (prs S r n))))) w) := by
    intro n9
    induction n9 with
    | zero =>
      intro i  hi 
      refine ev_iload dX0_pairs_5 rfl ?_
      refine ev_bipush (v := nI 64) dX0_pairs_7 (by decide) ?_
      refine ev_icmp_ge_t (tgt := 65) dX0_pairs_9 (by decide) (nI_le (by omega) (by omega)) ?_
      refine ev_iload_n dX0_pairs_65 rfl ?_
      exact ev_iret dX0_pairs_66 rfl rfl (oN (by rw [show i = 64 by omega]; rfl)) rfl
    | succ n9 ih =>
      intro i  hi 
      refine ev_iload dX0_pairs_5 rfl ?_
      refine ev_bipush (v := nI 64) dX0_pairs_7 (by decide) ?_
      refine ev_icmp_ge_f (tgt := 65) dX0_pairs_9 (by decide) (nI_ge (by omega) (by omega)) ?_
      refine ev_aload_n dX0_pairs_12 rfl ?_
      refine ev_iload dX0_pairs_13 rfl ?_
      refine ev_callV kX0_15 co1 (qX1_ownerAt_y hS0 (k := i) (by omega)) dX0_pairs_15 rfl (by decide) (by decide) rfl ?_
      refine ev_iload_n dX0_pairs_18 rfl ?_
      refine ev_icmp_eq (tgt := 25) dX0_pairs_19 (by decide) (fun hc19 => ?_) (fun hc19 => ?_)
      · refine ev_aload_n dX0_pairs_25 rfl ?_
        refine ev_iload dX0_pairs_26 rfl ?_
        refine ev_iconst dX0_pairs_28 ic1 ?_
        refine ev_callN kX0_21 (qX11_beside (d := 1) (k := i) (by omega) (by omega)) dX0_pairs_29 rfl (by decide) (by decide) rfl ?_
        refine ev_callV kX0_15 co1 (qX1_ownerAt hS0 (o := nb i 1) (fun e he => nb_lt (by omega) he)) dX0_pairs_32 rfl (by decide) (by decide) rfl ?_
        refine ev_iload_n dX0_pairs_35 rfl ?_
        refine ev_icmp_ne (tgt := 42) dX0_pairs_36 (by decide) (fun hc36 => ?_) (fun hc36 => ?_)
        · refine ev_aload_n dX0_pairs_42 rfl ?_
          refine ev_iload dX0_pairs_43 rfl ?_
          refine ev_iconst dX0_pairs_45 ic2 ?_
          refine ev_callN kX0_21 (qX11_beside (d := 2) (k := i) (by omega) (by omega)) dX0_pairs_46 rfl (by decide) (by decide) rfl ?_
          refine ev_callV kX0_15 co1 (qX1_ownerAt hS0 (o := nb i 2) (fun e he => nb_lt (by omega) he)) dX0_pairs_49 rfl (by decide) (by decide) rfl ?_
          refine ev_iload_n dX0_pairs_52 rfl ?_
          refine ev_icmp_ne (tgt := 59) dX0_pairs_53 (by decide) (fun hc53 => ?_) (fun hc53 => ?_)
          · refine ev_iinc4 dX0_pairs_59 (nI_inc _) (by decide) rfl ?_
            refine ev_goto (tgt := 5) dX0_pairs_62 (by decide) ?_
            have q := ih (i + 1) (by omega)
            rw [sm_s, show prf S r n i = 0 by simp [prf, hc19, hc36, hc53]] at q
            exact q
          · refine ev_iinc3 dX0_pairs_56 (nI_inc _) (by decide) rfl ?_
            refine ev_iinc4 dX0_pairs_59 (nI_inc _) (by decide) rfl ?_
            refine ev_goto (tgt := 5) dX0_pairs_62 (by decide) ?_
            have q := ih (i + 1) (by omega)
            rw [sm_s, show prf S r n i = 1 by simp [prf, hc19, hc36, hc53]] at q
            exact q
        · refine ev_iinc3 dX0_pairs_39 (nI_inc _) (by decide) rfl ?_
          refine ev_aload_n dX0_pairs_42 rfl ?_
          refine ev_iload dX0_pairs_43 rfl ?_
          refine ev_iconst dX0_pairs_45 ic2 ?_
          refine ev_callN kX0_21 (qX11_beside (d := 2) (k := i) (by omega) (by omega)) dX0_pairs_46 rfl (by decide) (by decide) rfl ?_
          refine ev_callV kX0_15 co1 (qX1_ownerAt hS0 (o := nb i 2) (fun e he => nb_lt (by omega) he)) dX0_pairs_49 rfl (by decide) (by decide) rfl ?_
          refine ev_iload_n dX0_pairs_52 rfl ?_
          refine ev_icmp_ne (tgt := 59) dX0_pairs_53 (by decide) (fun hc53 => ?_) (fun hc53 => ?_)
          · refine ev_iinc4 dX0_pairs_59 (nI_inc _) (by decide) rfl ?_
            refine ev_goto (tgt := 5) dX0_pairs_62 (by decide) ?_
            have q := ih (i + 1) (by omega)
            rw [sm_s, show prf S r n i = 1 by simp [prf, hc19, hc36, hc53]] at q
            exact q
          · refine ev_iinc3 dX0_pairs_56 (nI_inc _) (by decide) rfl ?_
            refine ev_iinc4 dX0_pairs_59 (nI_inc _) (by decide) rfl ?_
            refine ev_goto (tgt := 5) dX0_pairs_62 (by decide) ?_
            have q := ih (i + 1) (by omega)
            rw [sm_s, show prf S r n i = 2 by simp [prf, hc19, hc36, hc53]] at q
            exact q
      · refine ev_goto (tgt := 59) dX0_pairs_22 (by decide) ?_
        refine ev_iinc4 dX0_pairs_59 (nI_inc _) (by decide) rfl ?_
        refine ev_goto (tgt := 5) dX0_pairs_62 (by decide) ?_
        have q := ih (i + 1) (by omega)
        rw [sm_s, show prf S r n i = 0 by simp [prf, hc19]] at q
        exact q
  exact lp 64 0 rfl
set_option maxRecDepth 4000 in
theorem qX0_between {G : GX} {w : WS} {S : ST} (hS : cm_ S w) {r n : Int32} : Big G 4 0 mX0_between [.ref 1, .int r, .int n] w (.inl (some (.int (nI (if r = n then 0 else prs S r n + prs S n r))))) w := by
  refine big_of (by decide +kernel) (Nat.le_of_ble_eq_true rfl) ?_
  have hS0 := hS
  obtain ⟨⟨hO, hC, hR, hRv, hD, hDv, hM⟩, hk1, hk2, hk3, hk4⟩ := hS
  show Ev G 4 0 mX0_between 0 [some (.ref 1), some (.int r), some (.int n)] [] w _
  refine ev_iload_n dX0_between_0 rfl ?_
  refine ev_iload_n dX0_between_1 rfl ?_
  refine ev_icmp_ne (tgt := 7) dX0_between_2 (by decide) (fun hc2 => ?_) (fun hc2 => ?_)
  · refine ev_aload_n dX0_between_7 rfl ?_
    refine ev_iload_n dX0_between_8 rfl ?_
    refine ev_iload_n dX0_between_9 rfl ?_
    refine ev_callS kX0_9 (qX0_pairs hS0) dX0_between_10 rfl (by decide) (by decide) rfl ?_
    refine ev_aload_n dX0_between_13 rfl ?_
    refine ev_iload_n dX0_between_14 rfl ?_
    refine ev_iload_n dX0_between_15 rfl ?_
    refine ev_callS kX0_9 (qX0_pairs hS0) dX0_between_16 rfl (by decide) (by decide) rfl ?_
    refine ev_iadd dX0_between_19 ?_
    rw [nI_add]
    exact ev_iret dX0_between_20 rfl rfl (oN (if_neg hc2)) rfl
  · refine ev_iconst dX0_between_5 ic0 ?_
    exact ev_iret dX0_between_6 rfl rfl (oN (if_pos hc2)) rfl
set_option maxRecDepth 4000 in
theorem qX0_sideBySide {G : GX} {w : WS} {S : ST} (hS : cm_ S w) {r : Int32} : Big G 4 0 mX0_sideBySide [.ref 1, .int r] w (.inl (some (.int (nI (sbs S r))))) w := by
  refine big_of (by decide +kernel) (Nat.le_of_ble_eq_true rfl) ?_
  have hS0 := hS
  obtain ⟨⟨hO, hC, hR, hRv, hD, hDv, hM⟩, hk1, hk2, hk3, hk4⟩ := hS
  show Ev G 4 0 mX0_sideBySide 0 [some (.ref 1), some (.int r), none, none, none] [] w _
  refine ev_iconst dX0_sideBySide_0 ic0 ?_
  refine ev_ist2 dX0_sideBySide_1 (by decide) rfl ?_
  refine ev_iconst dX0_sideBySide_2 ic0 ?_
  refine ev_ist3 dX0_sideBySide_3 (by decide) rfl ?_
  have lp : ∀ (n i : Nat) , i + n = 64 → Ev G 4 0 mX0_sideBySide 4 [some (.ref 1), some (.int r), some (.int (nI (sm (sbf S r) i))), some (.int (nI i)), none] [] w (zu_ G (.inl (some (.int (nI (sbs S r))))) w) := by
    intro n
    induction n with
    | zero =>
      intro i  hi 
      refine ev_iload_n dX0_sideBySide_4 rfl ?_
      refine ev_bipush (v := nI 64) dX0_sideBySide_5 (by decide) ?_
      refine ev_icmp_ge_t (tgt := 60) dX0_sideBySide_7 (by decide) (nI_le (by omega) (by omega)) ?_
      refine ev_iload_n dX0_sideBySide_60 rfl ?_
      exact ev_iret dX0_sideBySide_61 rfl rfl (oN (by rw [show i = 64 by omega]; rfl)) rfl
    | succ n ih =>
      intro i  hi 
      refine ev_iload_n dX0_sideBySide_4 rfl ?_
      refine ev_bipush (v := nI 64) dX0_sideBySide_5 (by decide) ?_
      refine ev_icmp_ge_f (tgt := 60) dX0_sideBySide_7 (by decide) (nI_ge (by omega) (by omega)) ?_
      refine ev_aload_n dX0_sideBySide_10 rfl ?_
      refine ev_iload_n dX0_sideBySide_11 rfl ?_
      refine ev_callV kX0_15 co1 (qX1_ownerAt_y hS0 (k := i) (by omega)) dX0_sideBySide_12 rfl (by decide) (by decide) rfl ?_
      refine ev_iload_n dX0_sideBySide_15 rfl ?_
      refine ev_icmp_eq (tgt := 22) dX0_sideBySide_16 (by decide) (fun hc16 => ?_) (fun hc16 => ?_)
      · refine ev_iconst dX0_sideBySide_22 ic0 ?_
        refine ev_ist4 dX0_sideBySide_23 (by decide) rfl ?_
        have lq : ∀ (n8 j : Nat) , j + n8 = 4 → Ev G 4 0 mX0_sideBySide 25 [some (.ref 1), some (.int r), some (.int (nI (sm (sbf S r) i + ct (fun d => oo (sO S) (nb i d) != r) j))), some (.int (nI i)), some (.int (nI j))] [] w (zu_ G (.inl (some (.int (nI (sbs S r))))) w) := by
          intro n8
          induction n8 with
          | zero =>
            intro j  hj 
            refine ev_iload dX0_sideBySide_25 rfl ?_
            refine ev_iconst dX0_sideBySide_27 ic4 ?_
            refine ev_icmp_ge_t (tgt := 54) dX0_sideBySide_28 (by decide) (nI_le (by omega) (by omega)) ?_
            refine ev_iinc3 dX0_sideBySide_54 (nI_inc _) (by decide) rfl ?_
            refine ev_goto (tgt := 4) dX0_sideBySide_57 (by decide) ?_
            have q := ih (i + 1) (by omega)
            rw [sm_s, show sbf S r i = ct (fun d => oo (sO S) (nb i d) != r) j by rw [show j = 4 by omega]; simp [sbf, hc16]] at q
            refine ev_fg4 ?_
            exact q
          | succ n8 iq =>
            intro j  hj 
            refine ev_iload dX0_sideBySide_25 rfl ?_
            refine ev_iconst dX0_sideBySide_27 ic4 ?_
            refine ev_icmp_ge_f (tgt := 54) dX0_sideBySide_28 (by decide) (nI_ge (by omega) (by omega)) ?_
            refine ev_aload_n dX0_sideBySide_31 rfl ?_
            refine ev_iload_n dX0_sideBySide_32 rfl ?_
            refine ev_iload dX0_sideBySide_33 rfl ?_
            refine ev_callN kX0_21 (qX11_beside (d := j) (k := i) (by omega) (by omega)) dX0_sideBySide_35 rfl (by decide) (by decide) rfl ?_
            refine ev_callV kX0_15 co1 (qX1_ownerAt hS0 (o := nb i j) (fun e he => nb_lt (by omega) he)) dX0_sideBySide_38 rfl (by decide) (by decide) rfl ?_
            refine ev_iload_n dX0_sideBySide_41 rfl ?_
            refine ev_icmp_eq (tgt := 48) dX0_sideBySide_42 (by decide) (fun hc42 => ?_) (fun hc42 => ?_)
            · rw [← ct_f (p := (fun d => oo (sO S) (nb i d) != r)) (n := j) (by simp [hc42])]
              refine ev_iinc4 dX0_sideBySide_48 (nI_inc _) (by decide) rfl ?_
              refine ev_goto (tgt := 25) dX0_sideBySide_51 (by decide) ?_
              exact iq (j + 1) (by omega)
            · have e9 : sm (sbf S r) i + ct (fun d => oo (sO S) (nb i d) != r) j + 1 = sm (sbf S r) i + ct (fun d => oo (sO S) (nb i d) != r) (j + 1) := by rw [ct_t (p := (fun d => oo (sO S) (nb i d) != r)) (n := j) (by simp [hc42])]; rfl
              refine ev_iinc2 dX0_sideBySide_45 (nI_inc _) (by decide) rfl ?_
              rw [e9]
              refine ev_iinc4 dX0_sideBySide_48 (nI_inc _) (by decide) rfl ?_
              refine ev_goto (tgt := 25) dX0_sideBySide_51 (by decide) ?_
              exact iq (j + 1) (by omega)
        exact lq 4 0 rfl
      · refine ev_goto (tgt := 54) dX0_sideBySide_19 (by decide) ?_
        refine ev_iinc3 dX0_sideBySide_54 (nI_inc _) (by decide) rfl ?_
        refine ev_goto (tgt := 4) dX0_sideBySide_57 (by decide) ?_
        have q := ih (i + 1) (by omega)
        rw [sm_s, show sbf S r i = 0 by simp [sbf, hc16]] at q
        exact q
  exact lp 64 0 rfl
set_option maxRecDepth 4000 in
theorem qX0_lessPairs {G : GX} {w : WS} {S : ST} (hS : cm_ S w) {r : Int32} : Big G 4 0 mX0_lessPairs [.ref 1, .int r] w (.inl (some (.int (nI 4 * nI (cO S r) - nI 2 * nI (prs S r r))))) w := by
  refine big_of (by decide +kernel) (Nat.le_of_ble_eq_true rfl) ?_
  have hS0 := hS
  obtain ⟨⟨hO, hC, hR, hRv, hD, hDv, hM⟩, hk1, hk2, hk3, hk4⟩ := hS
  show Ev G 4 0 mX0_lessPairs 0 [some (.ref 1), some (.int r)] [] w _
  refine ev_iconst dX0_lessPairs_0 ic4 ?_
  refine ev_aload_n dX0_lessPairs_1 rfl ?_
  refine ev_iload_n dX0_lessPairs_2 rfl ?_
  refine ev_callV kX0_25 co1 (qX1_cellsOf hS0) dX0_lessPairs_3 rfl (by decide) (by decide) rfl ?_
  refine ev_imul dX0_lessPairs_6 ?_
  refine ev_iconst dX0_lessPairs_7 ic2 ?_
  refine ev_aload_n dX0_lessPairs_8 rfl ?_
  refine ev_iload_n dX0_lessPairs_9 rfl ?_
  refine ev_iload_n dX0_lessPairs_10 rfl ?_
  refine ev_callS kX0_9 (qX0_pairs hS0) dX0_lessPairs_11 rfl (by decide) (by decide) rfl ?_
  refine ev_imul dX0_lessPairs_14 ?_
  refine ev_isub dX0_lessPairs_15 ?_
  exact ev_iret dX0_lessPairs_16 rfl rfl rfl rfl
set_option maxRecDepth 4000 in
theorem qX3_depth {G : GX} {w : WS} {c : Nat} (h1 : 1 ≤ c) (hc : c ≤ 7) : Big G 1 0 mX3_depth [.int (nI c)] w (.inl (some (.int (nI (dp_ c))))) w := by
  refine big_of (by decide +kernel) (Nat.le_of_ble_eq_true rfl) ?_
  show Ev G 1 0 mX3_depth 0 [some (.int (nI c))] [] w _
  refine ev_iload_n dX3_depth_0 rfl ?_
  refine ev_bipush (v := nI 8) dX3_depth_1 (by decide) ?_
  refine ev_iload_n dX3_depth_3 rfl ?_
  refine ev_isub dX3_depth_4 ?_
  rw [pk_sub (by omega)]
  refine ev_min aX3_9 dX3_depth_5 rfl ?_
  rw [mn_ (by omega) (by omega)]
  exact ev_iret dX3_depth_8 rfl rfl rfl rfl
set_option maxRecDepth 4000 in
theorem qX3_ownerAt {G : GX} {w : WS} {S : ST} (hS : cm_ S w) {b : Bool} {x y : Nat} (hx : x < 8) (hy : y < 8) : Big G 3 0 mX3_ownerAt [.ref 1, .int (bI b), .int (nI x), .int (nI y)] w (.inl (some (.int (sO S (ix_ b x y))))) w := by
  refine big_of (by decide +kernel) (Nat.le_of_ble_eq_true rfl) ?_
  have hS0 := hS
  obtain ⟨⟨hO, hC, hR, hRv, hD, hDv, hM⟩, hk1, hk2, hk3, hk4⟩ := hS
  show Ev G 3 0 mX3_ownerAt 0 [some (.ref 1), some (.int (bI b)), some (.int (nI x)), some (.int (nI y))] [] w _
  refine ev_aload_n dX3_ownerAt_0 rfl ?_
  refine ev_iload_n dX3_ownerAt_1 rfl ?_
  refine ev_ifb_eq (tgt := 14) dX3_ownerAt_2 (by decide) (fun hc2 => ?_) (fun hc2 => ?_)
  · subst hc2
    refine ev_iload_n dX3_ownerAt_14 rfl ?_
    refine ev_bipush (v := nI 8) dX3_ownerAt_15 (by decide) ?_
    refine ev_imul dX3_ownerAt_17 ?_
    rw [pk_mul]
    refine ev_iload_n dX3_ownerAt_18 rfl ?_
    refine ev_iadd dX3_ownerAt_19 ?_
    rw [nI_add]
    refine ev_callV kX3_15 co1 (qX1_ownerAt_y hS0 (by omega)) dX3_ownerAt_20 rfl (by decide) (by decide) rfl ?_
    exact ev_iret dX3_ownerAt_23 rfl rfl rfl rfl
  · subst hc2
    refine ev_iload_n dX3_ownerAt_5 rfl ?_
    refine ev_bipush (v := nI 8) dX3_ownerAt_6 (by decide) ?_
    refine ev_imul dX3_ownerAt_8 ?_
    rw [pk_mul]
    refine ev_iload_n dX3_ownerAt_9 rfl ?_
    refine ev_iadd dX3_ownerAt_10 ?_
    rw [nI_add]
    refine ev_goto (tgt := 20) dX3_ownerAt_11 (by decide) ?_
    refine ev_callV kX3_15 co1 (qX1_ownerAt_y hS0 (by omega)) dX3_ownerAt_20 rfl (by decide) (by decide) rfl ?_
    exact ev_iret dX3_ownerAt_23 rfl rfl rfl rfl
set_option maxRecDepth 4000 in
theorem qX3_pairByPair {G : GX} {w : WS} {S : ST} (hS : cm_ S w) {b : Bool} {c : Nat} (h1 : 1 ≤ c) (hc : c ≤ 7) : Big G 4 0 mX3_pairByPair [.ref 1, .int (bI b), .int (nI c)] w (.inl (some (.int (nI (lys S b c))))) w := by
  refine big_of (by decide +kernel) (Nat.le_of_ble_eq_true rfl) ?_
  have hS0 := hS
  obtain ⟨⟨hO, hC, hR, hRv, hD, hDv, hM⟩, hk1, hk2, hk3, hk4⟩ := hS
  show Ev G 4 0 mX3_pairByPair 0 [some (.ref 1), some (.int (bI b)), some (.int (nI c)), none, none, none] [] w _
  refine ev_iconst dX3_pairByPair_0 ic0 ?_
  refine ev_ist3 dX3_pairByPair_1 (by decide) rfl ?_
  refine ev_iconst dX3_pairByPair_2 ic0 ?_
  refine ev_ist4 dX3_pairByPair_3 (by decide) rfl ?_
  have hdp : dp_ c ≤ c ∧ dp_ c ≤ 8 - c := by unfold dp_; omega
  have lp : ∀ (n9 k : Nat) , k + n9 = dp_ c → Ev G 4 0 mX3_pairByPair 5 [some (.ref 1), some (.int (bI b)), some (.int (nI c)), some (.int (nI (sm (lyk S b c) k))), some (.int (nI k)), none] [] w (zu_ G (.inl (some (.int (nI (lys S b c))))) w) := by
    intro n9
    induction n9 with
    | zero =>
      intro k  hk 
      refine ev_iload dX3_pairByPair_5 rfl ?_
      refine ev_iload_n dX3_pairByPair_7 rfl ?_
      refine ev_callS kX3_21 (qX3_depth h1 hc) dX3_pairByPair_8 rfl (by decide) (by decide) rfl ?_
      refine ev_icmp_ge_t (tgt := 66) dX3_pairByPair_11 (by decide) (nI_le (by omega) (by omega)) ?_
      refine ev_iload_n dX3_pairByPair_66 rfl ?_
      exact ev_iret dX3_pairByPair_67 rfl rfl (oN (by rw [show k = dp_ c by omega]; rfl)) rfl
    | succ n9 ih =>
      intro k  hk 
      refine ev_iload dX3_pairByPair_5 rfl ?_
      refine ev_iload_n dX3_pairByPair_7 rfl ?_
      refine ev_callS kX3_21 (qX3_depth h1 hc) dX3_pairByPair_8 rfl (by decide) (by decide) rfl ?_
      refine ev_icmp_ge_f (tgt := 66) dX3_pairByPair_11 (by decide) (nI_ge (by omega) (by omega)) ?_
      refine ev_iconst dX3_pairByPair_14 ic0 ?_
      refine ev_ist5 dX3_pairByPair_15 (by decide) rfl ?_
      have lq : ∀ (n8 y : Nat) , y + n8 = 8 → Ev G 4 0 mX3_pairByPair 17 [some (.ref 1), some (.int (bI b)), some (.int (nI c)), some (.int (nI (sm (lyk S b c) k + ct (lyf S b c k) y))), some (.int (nI k)), some (.int (nI y))] [] w (zu_ G (.inl (some (.int (nI (lys S b c))))) w) := by
        intro n8
        induction n8 with
        | zero =>
          intro y  hy 
          refine ev_iload dX3_pairByPair_17 rfl ?_
          refine ev_bipush (v := nI 8) dX3_pairByPair_19 (by decide) ?_
          refine ev_icmp_ge_t (tgt := 60) dX3_pairByPair_21 (by decide) (nI_le (by omega) (by omega)) ?_
          refine ev_iinc4 dX3_pairByPair_60 (nI_inc _) (by decide) rfl ?_
          refine ev_goto (tgt := 5) dX3_pairByPair_63 (by decide) ?_
          have q := ih (k + 1) (by omega)
          rw [sm_s, show lyk S b c k = ct (lyf S b c k) y by rw [show y = 8 by omega]; rfl] at q
          refine ev_fg5 ?_
          exact q
        | succ n8 iq =>
          intro y  hy 
          refine ev_iload dX3_pairByPair_17 rfl ?_
          refine ev_bipush (v := nI 8) dX3_pairByPair_19 (by decide) ?_
          refine ev_icmp_ge_f (tgt := 60) dX3_pairByPair_21 (by decide) (nI_ge (by omega) (by omega)) ?_
          refine ev_aload_n dX3_pairByPair_24 rfl ?_
          refine ev_iload_n dX3_pairByPair_25 rfl ?_
          refine ev_iload_n dX3_pairByPair_26 rfl ?_
          refine ev_iconst dX3_pairByPair_27 ic1 ?_
          refine ev_isub dX3_pairByPair_28 ?_
          rw [pk_sub h1]
          refine ev_iload dX3_pairByPair_29 rfl ?_
          refine ev_isub dX3_pairByPair_31 ?_
          rw [pk_sub (by omega)]
          refine ev_iload dX3_pairByPair_32 rfl ?_
          refine ev_callS kX3_26 (qX3_ownerAt hS0 (b := b) (x := c - 1 - k) (y := y) (by omega) (by omega)) dX3_pairByPair_34 rfl (by decide) (by decide) rfl ?_
          refine ev_aload_n dX3_pairByPair_37 rfl ?_
          refine ev_iload_n dX3_pairByPair_38 rfl ?_
          refine ev_iload_n dX3_pairByPair_39 rfl ?_
          refine ev_iload dX3_pairByPair_40 rfl ?_
          refine ev_iadd dX3_pairByPair_42 ?_
          rw [nI_add]
          refine ev_iload dX3_pairByPair_43 rfl ?_
          refine ev_callS kX3_26 (qX3_ownerAt hS0 (b := b) (x := c + k) (y := y) (by omega) (by omega)) dX3_pairByPair_45 rfl (by decide) (by decide) rfl ?_
          refine ev_icmp_eq (tgt := 54) dX3_pairByPair_48 (by decide) (fun hc48 => ?_) (fun hc48 => ?_)
          · rw [← ct_f (p := lyf S b c k) (n := y) (by simp [lyf, hc48])]
            refine ev_iinc5 dX3_pairByPair_54 (nI_inc _) (by decide) rfl ?_
            refine ev_goto (tgt := 17) dX3_pairByPair_57 (by decide) ?_
            exact iq (y + 1) (by omega)
          · have e9 : sm (lyk S b c) k + ct (lyf S b c k) y + 1 = sm (lyk S b c) k + ct (lyf S b c k) (y + 1) := by rw [ct_t (p := lyf S b c k) (n := y) (by simp [lyf, hc48])]; rfl
            refine ev_iinc3 dX3_pairByPair_51 (nI_inc _) (by decide) rfl ?_
            rw [e9]
            refine ev_iinc5 dX3_pairByPair_54 (nI_inc _) (by decide) rfl ?_
            refine ev_goto (tgt := 17) dX3_pairByPair_57 (by decide) ?_
            exact iq (y + 1) (by omega)
      exact lq 8 0 rfl
  exact lp (dp_ c) 0 (by omega)
set_option maxRecDepth 4000 in
theorem qX3_alike {G : GX} {w : WS} {S : ST} (hS : cm_ S w) {b : Bool} {c : Nat} (h1 : 1 ≤ c) (hc : c ≤ 7) {r : Int32} : Big G 4 0 mX3_alike [.ref 1, .int (bI b), .int (nI c), .int r] w (.inl (some (.int (nI (aks S b c r))))) w := by
  refine big_of (by decide +kernel) (Nat.le_of_ble_eq_true rfl) ?_
  have hS0 := hS
  obtain ⟨⟨hO, hC, hR, hRv, hD, hDv, hM⟩, hk1, hk2, hk3, hk4⟩ := hS
  show Ev G 4 0 mX3_alike 0 [some (.ref 1), some (.int (bI b)), some (.int (nI c)), some (.int r), none, none, none] [] w _
  refine ev_iconst dX3_alike_0 ic0 ?_
  refine ev_ist4 dX3_alike_1 (by decide) rfl ?_
  refine ev_iconst dX3_alike_3 ic0 ?_
  refine ev_ist5 dX3_alike_4 (by decide) rfl ?_
  have hdp : dp_ c ≤ c ∧ dp_ c ≤ 8 - c := by unfold dp_; omega
  have lp : ∀ (n9 k : Nat) , k + n9 = dp_ c → Ev G 4 0 mX3_alike 6 [some (.ref 1), some (.int (bI b)), some (.int (nI c)), some (.int r), some (.int (nI (sm (akk S b c r) k))), some (.int (nI k)), none] [] w (zu_ G (.inl (some (.int (nI (aks S b c r))))) w) := by
    intro n9
    induction n9 with
    | zero =>
      intro k  hk 
      refine ev_iload dX3_alike_6 rfl ?_
      refine ev_iload_n dX3_alike_8 rfl ?_
      refine ev_callS kX3_21 (qX3_depth h1 hc) dX3_alike_9 rfl (by decide) (by decide) rfl ?_
      refine ev_icmp_ge_t (tgt := 72) dX3_alike_12 (by decide) (nI_le (by omega) (by omega)) ?_
      refine ev_iload dX3_alike_72 rfl ?_
      exact ev_iret dX3_alike_74 rfl rfl (oN (by rw [show k = dp_ c by omega]; rfl)) rfl
    | succ n9 ih =>
      intro k  hk 
      refine ev_iload dX3_alike_6 rfl ?_
      refine ev_iload_n dX3_alike_8 rfl ?_
      refine ev_callS kX3_21 (qX3_depth h1 hc) dX3_alike_9 rfl (by decide) (by decide) rfl ?_
      refine ev_icmp_ge_f (tgt := 72) dX3_alike_12 (by decide) (nI_ge (by omega) (by omega)) ?_
      refine ev_iconst dX3_alike_15 ic0 ?_
      refine ev_ist6 dX3_alike_16 (by decide) rfl ?_
      have lq : ∀ (n8 y : Nat) , y + n8 = 8 → Ev G 4 0 mX3_alike 18 [some (.ref 1), some (.int (bI b)), some (.int (nI c)), some (.int r), some (.int (nI (sm (akk S b c r) k + ct (fun y => sO S (ix_ b (c - 1 - k) y) == r && sO S (ix_ b (c + k) y) == r) y))), some (.int (nI k)), some (.int (nI y))] [] w (zu_ G (.inl (some (.int (nI (aks S b c r))))) w) := by
        intro n8
        induction n8 with
        | zero =>
          intro y  hy 
          refine ev_iload dX3_alike_18 rfl ?_
          refine ev_bipush (v := nI 8) dX3_alike_20 (by decide) ?_
          refine ev_icmp_ge_t (tgt := 66) dX3_alike_22 (by decide) (nI_le (by omega) (by omega)) ?_
          refine ev_iinc5 dX3_alike_66 (nI_inc _) (by decide) rfl ?_
          refine ev_goto (tgt := 6) dX3_alike_69 (by decide) ?_
          have q := ih (k + 1) (by omega)
          rw [sm_s, show akk S b c r k = ct (fun y => sO S (ix_ b (c - 1 - k) y) == r && sO S (ix_ b (c + k) y) == r) y by rw [show y = 8 by omega]; rfl] at q
          refine ev_fg6 ?_
          exact q
        | succ n8 iq =>
          intro y  hy 
          refine ev_iload dX3_alike_18 rfl ?_
          refine ev_bipush (v := nI 8) dX3_alike_20 (by decide) ?_
          refine ev_icmp_ge_f (tgt := 66) dX3_alike_22 (by decide) (nI_ge (by omega) (by omega)) ?_
          refine ev_aload_n dX3_alike_25 rfl ?_
          refine ev_iload_n dX3_alike_26 rfl ?_
          refine ev_iload_n dX3_alike_27 rfl ?_
          refine ev_iconst dX3_alike_28 ic1 ?_
          refine ev_isub dX3_alike_29 ?_
          rw [pk_sub h1]
          refine ev_iload dX3_alike_30 rfl ?_
          refine ev_isub dX3_alike_32 ?_
          rw [pk_sub (by omega)]
          refine ev_iload dX3_alike_33 rfl ?_
          refine ev_callS kX3_26 (qX3_ownerAt hS0 (b := b) (x := c - 1 - k) (y := y) (by omega) (by omega)) dX3_alike_35 rfl (by decide) (by decide) rfl ?_
          refine ev_iload_n dX3_alike_38 rfl ?_
          refine ev_icmp_ne (tgt := 60) dX3_alike_39 (by decide) (fun hc39 => ?_) (fun hc39 => ?_)
          · rw [← ct_f (p := (fun y => sO S (ix_ b (c - 1 - k) y) == r && sO S (ix_ b (c + k) y) == r)) (n := y) (by simp [hc39])]
            refine ev_iinc6 dX3_alike_60 (nI_inc _) (by decide) rfl ?_
            refine ev_goto (tgt := 18) dX3_alike_63 (by decide) ?_
            exact iq (y + 1) (by omega)
          · refine ev_aload_n dX3_alike_42 rfl ?_
            refine ev_iload_n dX3_alike_43 rfl ?_
            refine ev_iload_n dX3_alike_44 rfl ?_
            refine ev_iload dX3_alike_45 rfl ?_
            refine ev_iadd dX3_alike_47 ?_
            rw [nI_add]
            refine ev_iload dX3_alike_48 rfl ?_
            refine ev_callS kX3_26 (qX3_ownerAt hS0 (b := b) (x := c + k) (y := y) (by omega) (by omega)) dX3_alike_50 rfl (by decide) (by decide) rfl ?_
            refine ev_iload_n dX3_alike_53 rfl ?_
            refine ev_icmp_ne (tgt := 60) dX3_alike_54 (by decide) (fun hc54 => ?_) (fun hc54 => ?_)
            · rw [← ct_f (p := (fun y => sO S (ix_ b (c - 1 - k) y) == r && sO S (ix_ b (c + k) y) == r)) (n := y) (by simp [hc54])]
              refine ev_iinc6 dX3_alike_60 (nI_inc _) (by decide) rfl ?_
              refine ev_goto (tgt := 18) dX3_alike_63 (by decide) ?_
              exact iq (y + 1) (by omega)
            · have e9 : sm (akk S b c r) k + ct (fun y => sO S (ix_ b (c - 1 - k) y) == r && sO S (ix_ b (c + k) y) == r) y + 1 = sm (akk S b c r) k + ct (fun y => sO S (ix_ b (c - 1 - k) y) == r && sO S (ix_ b (c + k) y) == r) (y + 1) := by rw [ct_t (p := (fun y => sO S (ix_ b (c - 1 - k) y) == r && sO S (ix_ b (c + k) y) == r)) (n := y) (by simp [hc39, hc54])]; rfl
              refine ev_iinc4 dX3_alike_57 (nI_inc _) (by decide) rfl ?_
              rw [e9]
              refine ev_iinc6 dX3_alike_60 (nI_inc _) (by decide) rfl ?_
              refine ev_goto (tgt := 18) dX3_alike_63 (by decide) ?_
              exact iq (y + 1) (by omega)
      exact lq 8 0 rfl
  exact lp (dp_ c) 0 (by omega)
set_option maxRecDepth 4000 in
theorem qX3_realmByRealm {G : GX} {w : WS} {S : ST} (hS : cm_ S w) {b : Bool} {c : Nat} (h1 : 1 ≤ c) (hc : c ≤ 7) : Big G 5 0 mX3_realmByRealm [.ref 1, .int (bI b), .int (nI c)] w (.inl (some (.int (nI (lys S b c))))) w := by
  refine big_of (by decide +kernel) (Nat.le_of_ble_eq_true rfl) ?_
  have hS0 := hS
  obtain ⟨⟨hO, hC, hR, hRv, hD, hDv, hM⟩, hk1, hk2, hk3, hk4⟩ := hS
  show Ev G 5 0 mX3_realmByRealm 0 [some (.ref 1), some (.int (bI b)), some (.int (nI c)), none, none] [] w _
  refine ev_bipush (v := nI 8) dX3_realmByRealm_0 (by decide) ?_
  refine ev_iload_n dX3_realmByRealm_2 rfl ?_
  refine ev_callS kX3_21 (qX3_depth h1 hc) dX3_realmByRealm_3 rfl (by decide) (by decide) rfl ?_
  refine ev_imul dX3_realmByRealm_6 ?_
  rw [pk_mul]
  refine ev_ist3 dX3_realmByRealm_7 (by decide) rfl ?_
  refine ev_iconst dX3_realmByRealm_8 icm1 ?_
  refine ev_ist4 dX3_realmByRealm_9 (by decide) rfl ?_
  have it : ∀ (r r2 a a2 : Int32), ¬ nI 4 ≤ r → a - nI (aks S b c r) = a2 → r + Int32.ofInt 1 = r2 → Ev G 5 0 mX3_realmByRealm 11 [some (.ref 1), some (.int (bI b)), some (.int (nI c)), some (.int a2), some (.int r2)] [] w (zu_ G (.inl (some (.int (nI (lys S b c))))) w) → Ev G 5 0 mX3_realmByRealm 11 [some (.ref 1), some (.int (bI b)), some (.int (nI c)), some (.int a), some (.int r)] [] w (zu_ G (.inl (some (.int (nI (lys S b c))))) w) := by
    intro r r2 a a2 h4 h5 h6 h7
    refine ev_iload dX3_realmByRealm_11 rfl ?_
    refine ev_iconst dX3_realmByRealm_13 ic4 ?_
    refine ev_icmp_ge_f (tgt := 34) dX3_realmByRealm_14 (by decide) h4 ?_
    refine ev_iload_n dX3_realmByRealm_17 rfl ?_
    refine ev_aload_n dX3_realmByRealm_18 rfl ?_
    refine ev_iload_n dX3_realmByRealm_19 rfl ?_
    refine ev_iload_n dX3_realmByRealm_20 rfl ?_
    refine ev_iload dX3_realmByRealm_21 rfl ?_
    refine ev_callS kX3_29 (qX3_alike hS0 h1 hc) dX3_realmByRealm_23 rfl (by decide) (by decide) rfl ?_
    refine ev_isub dX3_realmByRealm_26 ?_
    rw [h5]
    refine ev_ist3 dX3_realmByRealm_27 (by decide) rfl ?_
    refine ev_iinc4 dX3_realmByRealm_28 h6 (by decide) rfl ?_
    refine ev_goto (tgt := 11) dX3_realmByRealm_31 (by decide) ?_
    exact h7
  have sa := aks_sum hS0.2 (b := b) h1 hc
  refine it (-1) (nI 0) _ _ (by decide) (pk_sub (by omega)) (by decide) ?_
  refine it (nI 0) (nI 1) _ _ (by decide) (pk_sub (by omega)) (by decide) ?_
  refine it (nI 1) (nI 2) _ _ (by decide) (pk_sub (by omega)) (by decide) ?_
  refine it (nI 2) (nI 3) _ _ (by decide) (pk_sub (by omega)) (by decide) ?_
  refine it (nI 3) (nI 4) _ _ (by decide) (pk_sub (by omega)) (by decide) ?_
  refine ev_iload dX3_realmByRealm_11 rfl ?_
  refine ev_iconst dX3_realmByRealm_13 ic4 ?_
  refine ev_icmp_ge_t (tgt := 34) dX3_realmByRealm_14 (by decide) (by decide) ?_
  refine ev_iload_n dX3_realmByRealm_34 rfl ?_
  exact ev_iret dX3_realmByRealm_35 rfl rfl (oN (by omega)) rfl
set_option maxRecDepth 4000 in
theorem qX10_weightByRealms {G : GX} {w : WS} {S : ST} (hS : cm_ S w) {i : Nat} (hi : i < nR S) : Big G 4 0 mX10_weightByRealms [.ref 1, .int (nI i)] w (.inl (some (.int (nI (wgt S i))))) w := by
  refine big_of (by decide +kernel) (Nat.le_of_ble_eq_true rfl) ?_
  have hS0 := hS
  have hv := rv_ hS.2 hi
  obtain ⟨⟨hO, hC, hR, hRv, hD, hDv, hM⟩, hk1, hk2, hk3, hk4⟩ := hS
  show Ev G 4 0 mX10_weightByRealms 0 [some (.ref 1), some (.int (nI i)), none, none] [] w _
  refine ev_iconst dX10_weightByRealms_0 ic3 ?_
  refine ev_aload_n dX10_weightByRealms_1 rfl ?_
  refine ev_iload_n dX10_weightByRealms_2 rfl ?_
  refine ev_callV kX10_19 co1 (qX1_stepsOf hS0 hi) dX10_weightByRealms_3 rfl (by decide) (by decide) rfl ?_
  refine ev_imul dX10_weightByRealms_6 ?_
  rw [pk_mul]
  refine ev_ist2 dX10_weightByRealms_7 (by decide) rfl ?_
  refine ev_iconst dX10_weightByRealms_8 icm1 ?_
  refine ev_ist3 dX10_weightByRealms_9 (by decide) rfl ?_
  have it1 : ∀ (r r2 : Int32) (a : Nat), ¬ nI 4 ≤ r → r = -1 → 3 * tR S i r ≤ a + 1 * cR S i r → r + Int32.ofInt 1 = r2 → Ev G 4 0 mX10_weightByRealms 10 [some (.ref 1), some (.int (nI i)), some (.int (nI (a + 1 * cR S i r - 3 * tR S i r))), some (.int r2)] [] w (zu_ G (.inl (some (.int (nI (wgt S i))))) w) → Ev G 4 0 mX10_weightByRealms 10 [some (.ref 1), some (.int (nI i)), some (.int (nI a)), some (.int r)] [] w (zu_ G (.inl (some (.int (nI (wgt S i))))) w) := by
    intro r r2 a h4 h8 h9 h6 h7
    refine ev_iload_n dX10_weightByRealms_10 rfl ?_
    refine ev_iconst dX10_weightByRealms_11 ic4 ?_
    refine ev_icmp_ge_f (tgt := 52) dX10_weightByRealms_12 (by decide) h4 ?_
    refine ev_iload_n dX10_weightByRealms_15 rfl ?_
    refine ev_iload_n dX10_weightByRealms_16 rfl ?_
    refine ev_iconst dX10_weightByRealms_17 icm1 ?_
    refine ev_icmp_ne_f (tgt := 25) dX10_weightByRealms_18 (by decide) h8 ?_
    refine ev_iconst dX10_weightByRealms_21 ic1 ?_
    refine ev_goto (tgt := 26) dX10_weightByRealms_22 (by decide) ?_
    refine ev_aload_n dX10_weightByRealms_26 rfl ?_
    refine ev_iload_n dX10_weightByRealms_27 rfl ?_
    refine ev_iload_n dX10_weightByRealms_28 rfl ?_
    refine ev_callS kX10_28 (qX10_cellsOfRealm hS0 hi) dX10_weightByRealms_29 rfl (by decide) (by decide) rfl ?_
    refine ev_imul dX10_weightByRealms_32 ?_
    rw [pk_mul]
    refine ev_iadd dX10_weightByRealms_33 ?_
    rw [nI_add]
    refine ev_ist2 dX10_weightByRealms_34 (by decide) rfl ?_
    refine ev_iload_n dX10_weightByRealms_35 rfl ?_
    refine ev_iconst dX10_weightByRealms_36 ic3 ?_
    refine ev_aload_n dX10_weightByRealms_37 rfl ?_
    refine ev_iload_n dX10_weightByRealms_38 rfl ?_
    refine ev_iload_n dX10_weightByRealms_39 rfl ?_
    refine ev_callS kX10_32 (qX10_stepsInRealm hS0 hi) dX10_weightByRealms_40 rfl (by decide) (by decide) rfl ?_
    refine ev_imul dX10_weightByRealms_43 ?_
    rw [pk_mul]
    refine ev_isub dX10_weightByRealms_44 ?_
    rw [pk_sub h9]
    refine ev_ist2 dX10_weightByRealms_45 (by decide) rfl ?_
    refine ev_iinc3 dX10_weightByRealms_46 h6 (by decide) rfl ?_
    refine ev_goto (tgt := 10) dX10_weightByRealms_49 (by decide) ?_
    exact h7
  have it2 : ∀ (r r2 : Int32) (a : Nat), ¬ nI 4 ≤ r → ¬ r = -1 → 3 * tR S i r ≤ a + 2 * cR S i r → r + Int32.ofInt 1 = r2 → Ev G 4 0 mX10_weightByRealms 10 [some (.ref 1), some (.int (nI i)), some (.int (nI (a + 2 * cR S i r - 3 * tR S i r))), some (.int r2)] [] w (zu_ G (.inl (some (.int (nI (wgt S i))))) w) → Ev G 4 0 mX10_weightByRealms 10 [some (.ref 1), some (.int (nI i)), some (.int (nI a)), some (.int r)] [] w (zu_ G (.inl (some (.int (nI (wgt S i))))) w) := by
    intro r r2 a h4 h8 h9 h6 h7
    refine ev_iload_n dX10_weightByRealms_10 rfl ?_
    refine ev_iconst dX10_weightByRealms_11 ic4 ?_
    refine ev_icmp_ge_f (tgt := 52) dX10_weightByRealms_12 (by decide) h4 ?_
    refine ev_iload_n dX10_weightByRealms_15 rfl ?_
    refine ev_iload_n dX10_weightByRealms_16 rfl ?_
    refine ev_iconst dX10_weightByRealms_17 icm1 ?_
    refine ev_icmp_ne_t (tgt := 25) dX10_weightByRealms_18 (by decide) h8 ?_
    refine ev_iconst dX10_weightByRealms_25 ic2 ?_
    refine ev_aload_n dX10_weightByRealms_26 rfl ?_
    refine ev_iload_n dX10_weightByRealms_27 rfl ?_
    refine ev_iload_n dX10_weightByRealms_28 rfl ?_
    refine ev_callS kX10_28 (qX10_cellsOfRealm hS0 hi) dX10_weightByRealms_29 rfl (by decide) (by decide) rfl ?_
    refine ev_imul dX10_weightByRealms_32 ?_
    rw [pk_mul]
    refine ev_iadd dX10_weightByRealms_33 ?_
    rw [nI_add]
    refine ev_ist2 dX10_weightByRealms_34 (by decide) rfl ?_
    refine ev_iload_n dX10_weightByRealms_35 rfl ?_
    refine ev_iconst dX10_weightByRealms_36 ic3 ?_
    refine ev_aload_n dX10_weightByRealms_37 rfl ?_
    refine ev_iload_n dX10_weightByRealms_38 rfl ?_
    refine ev_iload_n dX10_weightByRealms_39 rfl ?_
    refine ev_callS kX10_32 (qX10_stepsInRealm hS0 hi) dX10_weightByRealms_40 rfl (by decide) (by decide) rfl ?_
    refine ev_imul dX10_weightByRealms_43 ?_
    rw [pk_mul]
    refine ev_isub dX10_weightByRealms_44 ?_
    rw [pk_sub h9]
    refine ev_ist2 dX10_weightByRealms_45 (by decide) rfl ?_
    refine ev_iinc3 dX10_weightByRealms_46 h6 (by decide) rfl ?_
    refine ev_goto (tgt := 10) dX10_weightByRealms_49 (by decide) ?_
    exact h7
  obtain ⟨sa, sb, sc⟩ := wgt_realms hS0.2 hi
  refine it1 (-1) (nI 0) _ (by decide) rfl (by omega) (by decide) ?_
  refine it2 (nI 0) (nI 1) _ (by decide) (by decide) (by omega) (by decide) ?_
  refine it2 (nI 1) (nI 2) _ (by decide) (by decide) (by omega) (by decide) ?_
  refine it2 (nI 2) (nI 3) _ (by decide) (by decide) (by omega) (by decide) ?_
  refine it2 (nI 3) (nI 4) _ (by decide) (by decide) (by omega) (by decide) ?_
  refine ev_iload_n dX10_weightByRealms_10 rfl ?_
  refine ev_iconst dX10_weightByRealms_11 ic4 ?_
  refine ev_icmp_ge_t (tgt := 52) dX10_weightByRealms_12 (by decide) (by decide) ?_
  refine ev_iload_n dX10_weightByRealms_52 rfl ?_
  exact ev_iret dX10_weightByRealms_53 rfl rfl (oN (by unfold wgt; omega)) rfl
