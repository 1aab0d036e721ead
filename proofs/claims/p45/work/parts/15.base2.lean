/-! numbers, booleans, shapes; rules by known conditions -/
def bI (b : Bool) : Int32 := if b then 1 else 0
theorem bI_t : bI true = 1 := rfl
theorem bI_f : bI false = 0 := rfl
theorem bI_n (b : Bool) : narrow .boolean (.int (bI b)) = .int (bI b) := by cases b <;> rfl
theorem bI_0 {b : Bool} : bI b = 0 ↔ b = false := by cases b <;> decide
theorem nI_inc (i : Nat) : nI i + Int32.ofInt 1 = nI (i + 1) := nI_1 i
theorem nI_dec (i : Nat) : nI (i + 1) + Int32.ofInt (-1) = nI i := by rw [← nI_1]; show nI i + 1 + (-1) = nI i; rw [Int32.add_assoc]; simp
theorem nI_m1 {k : Nat} (h : k < 2 ^ 31) : nI k ≠ -1 := by
  intro q
  have h1 := nI_toInt h
  rw [q] at h1
  have h2 : (-1 : Int32).toInt = -1 := by decide
  omega
theorem nI_inj {a b : Nat} (ha : a < 2 ^ 31) (hb : b < 2 ^ 31) (h : nI a = nI b) : a = b := (nI_eq ha hb).mp h
theorem ni_eq {a b : Nat} (h : a = b) : nI a = nI b := by rw [h]
theorem c1N (v : Int32) : narrow .int (.int v) = .int v := rfl
/-- x is none of 0 .. n - 1 -/
def out_ (n : Nat) (x : Int32) : Prop := x < 0 ∨ nI n ≤ x
theorem out_or (x : Int32) {n : Nat} (hn : n < 2 ^ 31) : out_ n x ∨ ∃ j : Nat, j < n ∧ x = nI j := by
  rcases pk_ix x hn with h | h | h
  · exact Or.inl (Or.inl h)
  · exact Or.inl (Or.inr h)
  · exact Or.inr h
theorem out_m1 {n : Nat} : out_ n (-1) := Or.inl (by decide)
theorem out_ne {n j : Nat} {x : Int32} (h : out_ n x) (hj : j < n) (hn : n < 2 ^ 31) : x ≠ nI j := by
  rintro rfl
  rcases h with h | h
  · exact nI_pos (by omega) h
  · exact nI_ge hj hn h
/-! by known conditions -/
theorem ev_if_eq_t {G : GX} {d b : Nat} {M : MT} {pc : Nat} {ls : List (Option Value)} {st : List Value} {w : WS} {Z : ZT} {x : Int32} {off : Int} {tgt : Nat} (hd : decode M.2.1 pc = .ok (.ifCond .eq off, 3)) (ht : (pc : Int) + off = (tgt : Int)) (h : (x = 0)) (K : Ev G d b M tgt ls st w Z) : Ev G d b M pc ls (.int x :: st) w Z := ev_if_eq hd ht (fun _ => K) (fun q => absurd h q)
theorem ev_if_eq_f {G : GX} {d b : Nat} {M : MT} {pc : Nat} {ls : List (Option Value)} {st : List Value} {w : WS} {Z : ZT} {x : Int32} {off : Int} {tgt : Nat} (hd : decode M.2.1 pc = .ok (.ifCond .eq off, 3)) (ht : (pc : Int) + off = (tgt : Int)) (h : ¬ (x = 0)) (K : Ev G d b M (pc + 3) ls st w Z) : Ev G d b M pc ls (.int x :: st) w Z := ev_if_eq hd ht (fun q => absurd q h) (fun _ => K)
theorem ev_icmp_eq_t {G : GX} {d b : Nat} {M : MT} {pc : Nat} {ls : List (Option Value)} {st : List Value} {w : WS} {Z : ZT} {x y : Int32} {off : Int} {tgt : Nat} (hd : decode M.2.1 pc = .ok (.if_icmp .eq off, 3)) (ht : (pc : Int) + off = (tgt : Int)) (h : (x = y)) (K : Ev G d b M tgt ls st w Z) : Ev G d b M pc ls (.int y :: .int x :: st) w Z := ev_icmp_eq hd ht (fun _ => K) (fun q => absurd h q)
theorem ev_icmp_eq_f {G : GX} {d b : Nat} {M : MT} {pc : Nat} {ls : List (Option Value)} {st : List Value} {w : WS} {Z : ZT} {x y : Int32} {off : Int} {tgt : Nat} (hd : decode M.2.1 pc = .ok (.if_icmp .eq off, 3)) (ht : (pc : Int) + off = (tgt : Int)) (h : ¬ (x = y)) (K : Ev G d b M (pc + 3) ls st w Z) : Ev G d b M pc ls (.int y :: .int x :: st) w Z := ev_icmp_eq hd ht (fun q => absurd q h) (fun _ => K)
theorem ev_if_ne_t {G : GX} {d b : Nat} {M : MT} {pc : Nat} {ls : List (Option Value)} {st : List Value} {w : WS} {Z : ZT} {x : Int32} {off : Int} {tgt : Nat} (hd : decode M.2.1 pc = .ok (.ifCond .ne off, 3)) (ht : (pc : Int) + off = (tgt : Int)) (h : (¬ x = 0)) (K : Ev G d b M tgt ls st w Z) : Ev G d b M pc ls (.int x :: st) w Z := ev_if_ne hd ht (fun _ => K) (fun q => absurd q h)
theorem ev_if_ne_f {G : GX} {d b : Nat} {M : MT} {pc : Nat} {ls : List (Option Value)} {st : List Value} {w : WS} {Z : ZT} {x : Int32} {off : Int} {tgt : Nat} (hd : decode M.2.1 pc = .ok (.ifCond .ne off, 3)) (ht : (pc : Int) + off = (tgt : Int)) (h : x = 0) (K : Ev G d b M (pc + 3) ls st w Z) : Ev G d b M pc ls (.int x :: st) w Z := ev_if_ne hd ht (fun q => absurd h q) (fun _ => K)
theorem ev_icmp_ne_t {G : GX} {d b : Nat} {M : MT} {pc : Nat} {ls : List (Option Value)} {st : List Value} {w : WS} {Z : ZT} {x y : Int32} {off : Int} {tgt : Nat} (hd : decode M.2.1 pc = .ok (.if_icmp .ne off, 3)) (ht : (pc : Int) + off = (tgt : Int)) (h : (¬ x = y)) (K : Ev G d b M tgt ls st w Z) : Ev G d b M pc ls (.int y :: .int x :: st) w Z := ev_icmp_ne hd ht (fun _ => K) (fun q => absurd q h)
theorem ev_icmp_ne_f {G : GX} {d b : Nat} {M : MT} {pc : Nat} {ls : List (Option Value)} {st : List Value} {w : WS} {Z : ZT} {x y : Int32} {off : Int} {tgt : Nat} (hd : decode M.2.1 pc = .ok (.if_icmp .ne off, 3)) (ht : (pc : Int) + off = (tgt : Int)) (h : x = y) (K : Ev G d b M (pc + 3) ls st w Z) : Ev G d b M pc ls (.int y :: .int x :: st) w Z := ev_icmp_ne hd ht (fun q => absurd h q) (fun _ => K)
theorem ev_if_lt_t {G : GX} {d b : Nat} {M : MT} {pc : Nat} {ls : List (Option Value)} {st : List Value} {w : WS} {Z : ZT} {x : Int32} {off : Int} {tgt : Nat} (hd : decode M.2.1 pc = .ok (.ifCond .lt off, 3)) (ht : (pc : Int) + off = (tgt : Int)) (h : (x < 0)) (K : Ev G d b M tgt ls st w Z) : Ev G d b M pc ls (.int x :: st) w Z := ev_if_lt hd ht (fun _ => K) (fun q => absurd h q)
theorem ev_if_lt_f {G : GX} {d b : Nat} {M : MT} {pc : Nat} {ls : List (Option Value)} {st : List Value} {w : WS} {Z : ZT} {x : Int32} {off : Int} {tgt : Nat} (hd : decode M.2.1 pc = .ok (.ifCond .lt off, 3)) (ht : (pc : Int) + off = (tgt : Int)) (h : ¬ (x < 0)) (K : Ev G d b M (pc + 3) ls st w Z) : Ev G d b M pc ls (.int x :: st) w Z := ev_if_lt hd ht (fun q => absurd q h) (fun _ => K)
theorem ev_icmp_lt_t {G : GX} {d b : Nat} {M : MT} {pc : Nat} {ls : List (Option Value)} {st : List Value} {w : WS} {Z : ZT} {x y : Int32} {off : Int} {tgt : Nat} (hd : decode M.2.1 pc = .ok (.if_icmp .lt off, 3)) (ht : (pc : Int) + off = (tgt : Int)) (h : (x < y)) (K : Ev G d b M tgt ls st w Z) : Ev G d b M pc ls (.int y :: .int x :: st) w Z := ev_icmp_lt hd ht (fun _ => K) (fun q => absurd h q)
theorem ev_icmp_lt_f {G : GX} {d b : Nat} {M : MT} {pc : Nat} {ls : List (Option Value)} {st : List Value} {w : WS} {Z : ZT} {x y : Int32} {off : Int} {tgt : Nat} (hd : decode M.2.1 pc = .ok (.if_icmp .lt off, 3)) (ht : (pc : Int) + off = (tgt : Int)) (h : ¬ (x < y)) (K : Ev G d b M (pc + 3) ls st w Z) : Ev G d b M pc ls (.int y :: .int x :: st) w Z := ev_icmp_lt hd ht (fun q => absurd q h) (fun _ => K)
theorem ev_if_ge_t {G : GX} {d b : Nat} {M : MT} {pc : Nat} {ls : List (Option Value)} {st : List Value} {w : WS} {Z : ZT} {x : Int32} {off : Int} {tgt : Nat} (hd : decode M.2.1 pc = .ok (.ifCond .ge off, 3)) (ht : (pc : Int) + off = (tgt : Int)) (h : (0 ≤ x)) (K : Ev G d b M tgt ls st w Z) : Ev G d b M pc ls (.int x :: st) w Z := ev_if_ge hd ht (fun _ => K) (fun q => absurd h q)
theorem ev_if_ge_f {G : GX} {d b : Nat} {M : MT} {pc : Nat} {ls : List (Option Value)} {st : List Value} {w : WS} {Z : ZT} {x : Int32} {off : Int} {tgt : Nat} (hd : decode M.2.1 pc = .ok (.ifCond .ge off, 3)) (ht : (pc : Int) + off = (tgt : Int)) (h : ¬ (0 ≤ x)) (K : Ev G d b M (pc + 3) ls st w Z) : Ev G d b M pc ls (.int x :: st) w Z := ev_if_ge hd ht (fun q => absurd q h) (fun _ => K)
theorem ev_icmp_ge_t {G : GX} {d b : Nat} {M : MT} {pc : Nat} {ls : List (Option Value)} {st : List Value} {w : WS} {Z : ZT} {x y : Int32} {off : Int} {tgt : Nat} (hd : decode M.2.1 pc = .ok (.if_icmp .ge off, 3)) (ht : (pc : Int) + off = (tgt : Int)) (h : (y ≤ x)) (K : Ev G d b M tgt ls st w Z) : Ev G d b M pc ls (.int y :: .int x :: st) w Z := ev_icmp_ge hd ht (fun _ => K) (fun q => absurd h q)
theorem ev_icmp_ge_f {G : GX} {d b : Nat} {M : MT} {pc : Nat} {ls : List (Option Value)} {st : List Value} {w : WS} {Z : ZT} {x y : Int32} {off : Int} {tgt : Nat} (hd : decode M.2.1 pc = .ok (.if_icmp .ge off, 3)) (ht : (pc : Int) + off = (tgt : Int)) (h : ¬ (y ≤ x)) (K : Ev G d b M (pc + 3) ls st w Z) : Ev G d b M pc ls (.int y :: .int x :: st) w Z := ev_icmp_ge hd ht (fun q => absurd q h) (fun _ => K)
theorem ev_if_gt_t {G : GX} {d b : Nat} {M : MT} {pc : Nat} {ls : List (Option Value)} {st : List Value} {w : WS} {Z : ZT} {x : Int32} {off : Int} {tgt : Nat} (hd : decode M.2.1 pc = .ok (.ifCond .gt off, 3)) (ht : (pc : Int) + off = (tgt : Int)) (h : (0 < x)) (K : Ev G d b M tgt ls st w Z) : Ev G d b M pc ls (.int x :: st) w Z := ev_if_gt hd ht (fun _ => K) (fun q => absurd h q)
theorem ev_if_gt_f {G : GX} {d b : Nat} {M : MT} {pc : Nat} {ls : List (Option Value)} {st : List Value} {w : WS} {Z : ZT} {x : Int32} {off : Int} {tgt : Nat} (hd : decode M.2.1 pc = .ok (.ifCond .gt off, 3)) (ht : (pc : Int) + off = (tgt : Int)) (h : ¬ (0 < x)) (K : Ev G d b M (pc + 3) ls st w Z) : Ev G d b M pc ls (.int x :: st) w Z := ev_if_gt hd ht (fun q => absurd q h) (fun _ => K)
theorem ev_icmp_gt_t {G : GX} {d b : Nat} {M : MT} {pc : Nat} {ls : List (Option Value)} {st : List Value} {w : WS} {Z : ZT} {x y : Int32} {off : Int} {tgt : Nat} (hd : decode M.2.1 pc = .ok (.if_icmp .gt off, 3)) (ht : (pc : Int) + off = (tgt : Int)) (h : (y < x)) (K : Ev G d b M tgt ls st w Z) : Ev G d b M pc ls (.int y :: .int x :: st) w Z := ev_icmp_gt hd ht (fun _ => K) (fun q => absurd h q)
theorem ev_icmp_gt_f {G : GX} {d b : Nat} {M : MT} {pc : Nat} {ls : List (Option Value)} {st : List Value} {w : WS} {Z : ZT} {x y : Int32} {off : Int} {tgt : Nat} (hd : decode M.2.1 pc = .ok (.if_icmp .gt off, 3)) (ht : (pc : Int) + off = (tgt : Int)) (h : ¬ (y < x)) (K : Ev G d b M (pc + 3) ls st w Z) : Ev G d b M pc ls (.int y :: .int x :: st) w Z := ev_icmp_gt hd ht (fun q => absurd q h) (fun _ => K)
theorem ev_if_le_t {G : GX} {d b : Nat} {M : MT} {pc : Nat} {ls : List (Option Value)} {st : List Value} {w : WS} {Z : ZT} {x : Int32} {off : Int} {tgt : Nat} (hd : decode M.2.1 pc = .ok (.ifCond .le off, 3)) (ht : (pc : Int) + off = (tgt : Int)) (h : (x ≤ 0)) (K : Ev G d b M tgt ls st w Z) : Ev G d b M pc ls (.int x :: st) w Z := ev_if_le hd ht (fun _ => K) (fun q => absurd h q)
theorem ev_if_le_f {G : GX} {d b : Nat} {M : MT} {pc : Nat} {ls : List (Option Value)} {st : List Value} {w : WS} {Z : ZT} {x : Int32} {off : Int} {tgt : Nat} (hd : decode M.2.1 pc = .ok (.ifCond .le off, 3)) (ht : (pc : Int) + off = (tgt : Int)) (h : ¬ (x ≤ 0)) (K : Ev G d b M (pc + 3) ls st w Z) : Ev G d b M pc ls (.int x :: st) w Z := ev_if_le hd ht (fun q => absurd q h) (fun _ => K)
theorem ev_icmp_le_t {G : GX} {d b : Nat} {M : MT} {pc : Nat} {ls : List (Option Value)} {st : List Value} {w : WS} {Z : ZT} {x y : Int32} {off : Int} {tgt : Nat} (hd : decode M.2.1 pc = .ok (.if_icmp .le off, 3)) (ht : (pc : Int) + off = (tgt : Int)) (h : (x ≤ y)) (K : Ev G d b M tgt ls st w Z) : Ev G d b M pc ls (.int y :: .int x :: st) w Z := ev_icmp_le hd ht (fun _ => K) (fun q => absurd h q)
theorem ev_icmp_le_f {G : GX} {d b : Nat} {M : MT} {pc : Nat} {ls : List (Option Value)} {st : List Value} {w : WS} {Z : ZT} {x y : Int32} {off : Int} {tgt : Nat} (hd : decode M.2.1 pc = .ok (.if_icmp .le off, 3)) (ht : (pc : Int) + off = (tgt : Int)) (h : ¬ (x ≤ y)) (K : Ev G d b M (pc + 3) ls st w Z) : Ev G d b M pc ls (.int y :: .int x :: st) w Z := ev_icmp_le hd ht (fun q => absurd q h) (fun _ => K)
theorem ev_ifb_eq {G : GX} {d b : Nat} {M : MT} {pc : Nat} {ls : List (Option Value)} {st : List Value} {w : WS} {Z : ZT} {x : Bool} {off : Int} {tgt : Nat} (hd : decode M.2.1 pc = .ok (.ifCond .eq off, 3)) (ht : (pc : Int) + off = (tgt : Int)) (kt : x = false → Ev G d b M tgt ls st w Z) (kf : x = true → Ev G d b M (pc + 3) ls st w Z) : Ev G d b M pc ls (.int (bI x) :: st) w Z := ev_if_eq hd ht (fun q => kt (bI_0.mp q)) (fun q => kf (by cases x <;> first | rfl | exact absurd rfl q))
theorem ev_ifb_ne {G : GX} {d b : Nat} {M : MT} {pc : Nat} {ls : List (Option Value)} {st : List Value} {w : WS} {Z : ZT} {x : Bool} {off : Int} {tgt : Nat} (hd : decode M.2.1 pc = .ok (.ifCond .ne off, 3)) (ht : (pc : Int) + off = (tgt : Int)) (kt : x = true → Ev G d b M tgt ls st w Z) (kf : x = false → Ev G d b M (pc + 3) ls st w Z) : Ev G d b M pc ls (.int (bI x) :: st) w Z := ev_if_ne hd ht (fun q => kt (by cases x <;> first | rfl | exact absurd rfl q)) (fun q => kf (bI_0.mp q))
theorem ev_fg0 {G : GX} {d b : Nat} {M : MT} {pc : Nat} {q : List (Option Value)} {x : Option Value} {st : List Value} {w : WS} {Z : ZT} (K : Ev G d b M pc (none :: q) st w Z) : Ev G d b M pc (x :: q) st w Z := ev_sub _ (fun k v h => by
  first
  | (match k, h with | 0, h => cases h | k + 1, h => exact h)
  ) K
theorem ev_fg1 {G : GX} {d b : Nat} {M : MT} {pc : Nat} {q : List (Option Value)} {x : Option Value} {a0 : Option Value} {st : List Value} {w : WS} {Z : ZT} (K : Ev G d b M pc (a0 :: none :: q) st w Z) : Ev G d b M pc (a0 :: x :: q) st w Z := ev_sub _ (fun k v h => by
  first
  | (match k, h with | 0, h => exact h | 1, h => cases h | k + 2, h => exact h)
  ) K
theorem ev_fg2 {G : GX} {d b : Nat} {M : MT} {pc : Nat} {q : List (Option Value)} {x : Option Value} {a0 a1 : Option Value} {st : List Value} {w : WS} {Z : ZT} (K : Ev G d b M pc (a0 :: a1 :: none :: q) st w Z) : Ev G d b M pc (a0 :: a1 :: x :: q) st w Z := ev_sub _ (fun k v h => by
  first
  | (match k, h with | 0, h => exact h | 1, h => exact h | 2, h => cases h | k + 3, h => exact h)
  ) K
theorem ev_fg3 {G : GX} {d b : Nat} {M : MT} {pc : Nat} {q : List (Option Value)} {x : Option Value} {a0 a1 a2 : Option Value} {st : List Value} {w : WS} {Z : ZT} (K : Ev G d b M pc (a0 :: a1 :: a2 :: none :: q) st w Z) : Ev G d b M pc (a0 :: a1 :: a2 :: x :: q) st w Z := ev_sub _ (fun k v h => by
  first
  | (match k, h with | 0, h => exact h | 1, h => exact h | 2, h => exact h | 3, h => cases h | k + 4, h => exact h)
  ) K
theorem ev_fg4 {G : GX} {d b : Nat} {M : MT} {pc : Nat} {q : List (Option Value)} {x : Option Value} {a0 a1 a2 a3 : Option Value} {st : List Value} {w : WS} {Z : ZT} (K : Ev G d b M pc (a0 :: a1 :: a2 :: a3 :: none :: q) st w Z) : Ev G d b M pc (a0 :: a1 :: a2 :: a3 :: x :: q) st w Z := ev_sub _ (fun k v h => by
  first
  | (match k, h with | 0, h => exact h | 1, h => exact h | 2, h => exact h | 3, h => exact h | 4, h => cases h | k + 5, h => exact h)
  ) K
theorem ev_fg5 {G : GX} {d b : Nat} {M : MT} {pc : Nat} {q : List (Option Value)} {x : Option Value} {a0 a1 a2 a3 a4 : Option Value} {st : List Value} {w : WS} {Z : ZT} (K : Ev G d b M pc (a0 :: a1 :: a2 :: a3 :: a4 :: none :: q) st w Z) : Ev G d b M pc (a0 :: a1 :: a2 :: a3 :: a4 :: x :: q) st w Z := ev_sub _ (fun k v h => by
  first
  | (match k, h with | 0, h => exact h | 1, h => exact h | 2, h => exact h | 3, h => exact h | 4, h => exact h | 5, h => cases h | k + 6, h => exact h)
  ) K
theorem ev_fg6 {G : GX} {d b : Nat} {M : MT} {pc : Nat} {q : List (Option Value)} {x : Option Value} {a0 a1 a2 a3 a4 a5 : Option Value} {st : List Value} {w : WS} {Z : ZT} (K : Ev G d b M pc (a0 :: a1 :: a2 :: a3 :: a4 :: a5 :: none :: q) st w Z) : Ev G d b M pc (a0 :: a1 :: a2 :: a3 :: a4 :: a5 :: x :: q) st w Z := ev_sub _ (fun k v h => by
  first
  | (match k, h with | 0, h => exact h | 1, h => exact h | 2, h => exact h | 3, h => exact h | 4, h => exact h | 5, h => exact h | 6, h => cases h | k + 7, h => exact h)
  ) K
theorem ev_fg7 {G : GX} {d b : Nat} {M : MT} {pc : Nat} {q : List (Option Value)} {x : Option Value} {a0 a1 a2 a3 a4 a5 a6 : Option Value} {st : List Value} {w : WS} {Z : ZT} (K : Ev G d b M pc (a0 :: a1 :: a2 :: a3 :: a4 :: a5 :: a6 :: none :: q) st w Z) : Ev G d b M pc (a0 :: a1 :: a2 :: a3 :: a4 :: a5 :: a6 :: x :: q) st w Z := ev_sub _ (fun k v h => by
  first
  | (match k, h with | 0, h => exact h | 1, h => exact h | 2, h => exact h | 3, h => exact h | 4, h => exact h | 5, h => exact h | 6, h => exact h | 7, h => cases h | k + 8, h => exact h)
  ) K
theorem ev_fg8 {G : GX} {d b : Nat} {M : MT} {pc : Nat} {q : List (Option Value)} {x : Option Value} {a0 a1 a2 a3 a4 a5 a6 a7 : Option Value} {st : List Value} {w : WS} {Z : ZT} (K : Ev G d b M pc (a0 :: a1 :: a2 :: a3 :: a4 :: a5 :: a6 :: a7 :: none :: q) st w Z) : Ev G d b M pc (a0 :: a1 :: a2 :: a3 :: a4 :: a5 :: a6 :: a7 :: x :: q) st w Z := ev_sub _ (fun k v h => by
  first
  | (match k, h with | 0, h => exact h | 1, h => exact h | 2, h => exact h | 3, h => exact h | 4, h => exact h | 5, h => exact h | 6, h => exact h | 7, h => exact h | 8, h => cases h | k + 9, h => exact h)
  ) K
theorem ev_fg9 {G : GX} {d b : Nat} {M : MT} {pc : Nat} {q : List (Option Value)} {x : Option Value} {a0 a1 a2 a3 a4 a5 a6 a7 a8 : Option Value} {st : List Value} {w : WS} {Z : ZT} (K : Ev G d b M pc (a0 :: a1 :: a2 :: a3 :: a4 :: a5 :: a6 :: a7 :: a8 :: none :: q) st w Z) : Ev G d b M pc (a0 :: a1 :: a2 :: a3 :: a4 :: a5 :: a6 :: a7 :: a8 :: x :: q) st w Z := ev_sub _ (fun k v h => by
  first
  | (match k, h with | 0, h => exact h | 1, h => exact h | 2, h => exact h | 3, h => exact h | 4, h => exact h | 5, h => exact h | 6, h => exact h | 7, h => exact h | 8, h => exact h | 9, h => cases h | k + 10, h => exact h)
  ) K
theorem icm1 : Int32.ofInt (-1) = -1 := by decide
theorem ic0 : Int32.ofInt (0) = nI 0 := by decide
theorem ic1 : Int32.ofInt (1) = nI 1 := by decide
theorem ic2 : Int32.ofInt (2) = nI 2 := by decide
theorem ic3 : Int32.ofInt (3) = nI 3 := by decide
theorem ic4 : Int32.ofInt (4) = nI 4 := by decide
theorem ic5 : Int32.ofInt (5) = nI 5 := by decide
theorem sh0 : shp 0 = .inl (10, [some 1, some 12, some 23, none, some 100, some 102, some 106, some 104, some 107, some 109, some 112, none]) := by decide +kernel
theorem sh1 : shp 1 = .inl (3, [some 2, some 3, some 4, some 5, some 6, some 7, some 8, some 9, some 10, some 11, none, none, none, none, none, none, none]) := by decide +kernel
theorem sh2 : shp 2 = .inr (0, 64) := by decide +kernel
theorem sh3 : shp 3 = .inr (0, 4) := by decide +kernel
theorem sh4 : shp 4 = .inr (0, 4) := by decide +kernel
theorem sh5 : shp 5 = .inr (0, 4) := by decide +kernel
theorem sh6 : shp 6 = .inr (0, 52) := by decide +kernel
theorem sh7 : shp 7 = .inr (0, 4) := by decide +kernel
theorem sh8 : shp 8 = .inr (0, 4) := by decide +kernel
theorem sh9 : shp 9 = .inr (0, 5) := by decide +kernel
theorem sh10 : shp 10 = .inr (0, 5) := by decide +kernel
theorem sh11 : shp 11 = .inr (0, 5) := by decide +kernel
theorem sh12 : shp 12 = .inl (3, [some 13, some 14, some 15, some 16, some 17, some 18, some 19, some 20, some 21, some 22, none, none, none, none, none, none, none]) := by decide +kernel
theorem sh13 : shp 13 = .inr (0, 64) := by decide +kernel
theorem sh14 : shp 14 = .inr (0, 4) := by decide +kernel
theorem sh15 : shp 15 = .inr (0, 4) := by decide +kernel
theorem sh16 : shp 16 = .inr (0, 4) := by decide +kernel
theorem sh17 : shp 17 = .inr (0, 52) := by decide +kernel
theorem sh18 : shp 18 = .inr (0, 4) := by decide +kernel
theorem sh19 : shp 19 = .inr (0, 4) := by decide +kernel
theorem sh20 : shp 20 = .inr (0, 5) := by decide +kernel
theorem sh21 : shp 21 = .inr (0, 5) := by decide +kernel
theorem sh22 : shp 22 = .inr (0, 5) := by decide +kernel
theorem sh23 : shp 23 = .inl (3, [some 24, some 25, some 26, some 27, some 28, some 29, some 30, some 31, some 32, some 33, none, none, none, none, none, none, none]) := by decide +kernel
theorem sh24 : shp 24 = .inr (0, 64) := by decide +kernel
theorem sh25 : shp 25 = .inr (0, 4) := by decide +kernel
theorem sh26 : shp 26 = .inr (0, 4) := by decide +kernel
theorem sh27 : shp 27 = .inr (0, 4) := by decide +kernel
theorem sh28 : shp 28 = .inr (0, 52) := by decide +kernel
theorem sh29 : shp 29 = .inr (0, 4) := by decide +kernel
theorem sh30 : shp 30 = .inr (0, 4) := by decide +kernel
theorem sh31 : shp 31 = .inr (0, 5) := by decide +kernel
theorem sh32 : shp 32 = .inr (0, 5) := by decide +kernel
theorem sh33 : shp 33 = .inr (0, 5) := by decide +kernel
theorem sh100 : shp 100 = .inl (5, [some 101, none, none]) := by decide +kernel
theorem sh101 : shp 101 = .inr (5, 6) := by decide +kernel
theorem sh102 : shp 102 = .inl (4, [none, none, none, none, some 103]) := by decide +kernel
theorem sh103 : shp 103 = .inr (0, 12) := by decide +kernel
theorem sh104 : shp 104 = .inl (9, [some 105, none]) := by decide +kernel
theorem sh105 : shp 105 = .inr (1, 60) := by decide +kernel
theorem sh106 : shp 106 = .inl (7, [some 104, none]) := by decide +kernel
theorem sh107 : shp 107 = .inl (9, [some 108, none]) := by decide +kernel
theorem sh108 : shp 108 = .inr (1, 60) := by decide +kernel
theorem sh109 : shp 109 = .inl (8, [some 110, some 111, none]) := by decide +kernel
theorem sh110 : shp 110 = .inr (0, 3) := by decide +kernel
theorem sh111 : shp 111 = .inr (0, 3) := by decide +kernel
theorem sh112 : shp 112 = .inl (6, [some 113, some 114]) := by decide +kernel
theorem sh113 : shp 113 = .inr (0, 64) := by decide +kernel
theorem sh114 : shp 114 = .inr (0, 64) := by decide +kernel
theorem co0 : co_ 0 RX11 := ⟨by decide, 10, _, _, sh0, rfl, rfl⟩
theorem co1 : co_ 1 RX1 := ⟨by decide, 3, _, _, sh1, rfl, rfl⟩
theorem co12 : co_ 12 RX1 := ⟨by decide, 3, _, _, sh12, rfl, rfl⟩
theorem co23 : co_ 23 RX1 := ⟨by decide, 3, _, _, sh23, rfl, rfl⟩
theorem co100 : co_ 100 RX4 := ⟨by decide, 5, _, _, sh100, rfl, rfl⟩
theorem co102 : co_ 102 RX2 := ⟨by decide, 4, _, _, sh102, rfl, rfl⟩
theorem co104 : co_ 104 RX9 := ⟨by decide, 9, _, _, sh104, rfl, rfl⟩
theorem co106 : co_ 106 RX7 := ⟨by decide, 7, _, _, sh106, rfl, rfl⟩
theorem co107 : co_ 107 RX9 := ⟨by decide, 9, _, _, sh107, rfl, rfl⟩
theorem co109 : co_ 109 RX8 := ⟨by decide, 8, _, _, sh109, rfl, rfl⟩
theorem co112 : co_ 112 RX6 := ⟨by decide, 6, _, _, sh112, rfl, rfl⟩
theorem shB {i : Nat} (h : i < 9) : shp (1 + 11 * i) = .inl (3, [some (1 + 11 * i + 1), some (1 + 11 * i + 2), some (1 + 11 * i + 3), some (1 + 11 * i + 4), some (1 + 11 * i + 5), some (1 + 11 * i + 6), some (1 + 11 * i + 7), some (1 + 11 * i + 8), some (1 + 11 * i + 9), some (1 + 11 * i + 10), none, none, none, none, none, none, none]) :=
  (by decide +kernel : ∀ i, i < 9 → shp (1 + 11 * i) = .inl (3, [some (1 + 11 * i + 1), some (1 + 11 * i + 2), some (1 + 11 * i + 3), some (1 + 11 * i + 4), some (1 + 11 * i + 5), some (1 + 11 * i + 6), some (1 + 11 * i + 7), some (1 + 11 * i + 8), some (1 + 11 * i + 9), some (1 + 11 * i + 10), none, none, none, none, none, none, none])) i h
theorem shBA {i j : Nat} (h : i < 9) (hj : j < 10) : shp (1 + 11 * i + (j + 1)) = .inr (0, chartLens.getD j 0) :=
  (by decide +kernel : ∀ (i : Fin 9) (j : Fin 10), shp (1 + 11 * i.val + (j.val + 1)) = .inr (0, chartLens.getD j.val 0)) ⟨i, h⟩ ⟨j, hj⟩
theorem coB {i : Nat} (h : i < 9) : co_ (1 + 11 * i) RX1 := ⟨by omega, 3, _, _, shB h, rfl, rfl⟩
