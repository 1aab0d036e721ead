/-! the law's small methods -/
section
variable {G : GX} {d b : Nat} {M : MT} {pc : Nat} {ls : List (Option Value)} {w : WS} {Z : ZT}
/-- a call of the law's that asks the class -/
theorem ev_q {cs : List Int32} {r : (Nat × Int32) × AS} {M' : MT} {idx n : Nat} {as rest : List Value} (hl : slw_ M.1.cls idx M' n) (hc : ∃ o w2, pL_ cs r w o w2 ∧ Big G 20 1 M' as w o w2) (hd : decode M.2.1 pc = .ok (.invokestatic idx, 3)) (hn : as.length = n) (hlt : 20 < d) (hb : 1 ≤ b) (hm : sm_ rest = true)
    (K : ∀ w2, aX r.2 w2 → w2.2 = w.2 → Ev G d (b - 1) M (pc + 3) ls (.int (lc_ cs r.1) :: rest) w2 Z) : Ev G d b M pc ls (ra_ as rest) w Z := by
  obtain ⟨o, w2, ⟨rfl, h1, h2⟩, hB⟩ := hc
  exact ev_callSW hl hB hd hn hlt hb hm (K w2 h1 h2.2)
/-- a call of the class itself -/
theorem ev_qc {es : List String} {v : Int32} {A : AS} {M' : MT} {idx n dd : Nat} {as rest : List Value} (hl : vl_ M.1.cls idx M' n) (hk : co_ 0 M'.1.cls) (hc : ∃ o w2, pF es ((0, v), A) w o w2 ∧ Big G dd 1 M' (.ref 0 :: as) w o w2) (hd : decode M.2.1 pc = .ok (.invokevirtual idx, 3)) (hn : as.length = n) (hlt : dd < d) (hb : 1 ≤ b) (hm : sm_ rest = true)
    (K : ∀ w2, aX A w2 → w2.2 = w.2 → Ev G d (b - 1) M (pc + 3) ls (.int v :: rest) w2 Z) : Ev G d b M pc ls (ra_ as (.ref 0 :: rest)) w Z := by
  obtain ⟨o, w2, ⟨rfl, h1, h2⟩, hB⟩ := hc
  exact ev_callV hl hk hB hd hn hlt hb hm (K w2 h1 h2.2)
end
theorem us_nI : ∀ s : Fin 31, ((nI s.val).toUInt32 &&& Int32.toUInt32 31) = (nI s.val).toUInt32 ∧ (((nI s.val).toUInt32 &&& Int32.toUInt32 31).toBitVec % 32).toNat = s.val := by decide +kernel
theorem us_v {n s : Nat} (hn : n < 2 ^ 31) (hs : s < 31) : ((nI n).toUInt32 >>> ((nI s).toUInt32 &&& Int32.toUInt32 31)).toInt32 = nI (n / 2 ^ s) := by
  have h := pk_ushr (nI n) (nI s) s (us_nI ⟨s, hs⟩).2
  have h1 : (nI n).toBitVec.toNat = n := by
    show n % 2 ^ 32 = n
    exact Nat.mod_eq_of_lt (by omega)
  rw [h1] at h
  have h2 : n / 2 ^ s < 2 ^ 31 := Nat.lt_of_le_of_lt (Nat.div_le_self _ _) hn
  apply Int32.toBitVec_inj.mp
  apply BitVec.eq_of_toNat_eq
  rw [h]
  show n / 2 ^ s = (n / 2 ^ s) % 2 ^ 32
  exact (Nat.mod_eq_of_lt (by omega)).symm
/-- any number, shifted by one: it is not below 0 any more -/
def hf_ (x : Int32) : Nat := x.toBitVec.toNat / 2
theorem hf_lt (x : Int32) : hf_ x < 2 ^ 31 := by
  unfold hf_
  have := x.toBitVec.isLt
  omega
theorem us_1 (x : Int32) : (x.toUInt32 >>> ((nI 1).toUInt32 &&& Int32.toUInt32 31)).toInt32 = nI (hf_ x) := by
  have h := pk_ushr x (nI 1) 1 (us_nI ⟨1, by decide⟩).2
  have h2 := hf_lt x
  apply Int32.toBitVec_inj.mp
  apply BitVec.eq_of_toNat_eq
  rw [h]
  show x.toBitVec.toNat / 2 ^ 1 = (hf_ x) % 2 ^ 32
  rw [Nat.mod_eq_of_lt (by omega)]
  rfl
/-- the script's numbers: what is there, and others beyond its end -/
def cel (G : GX) (k : Nat) : Int32 := if k < gN G then gX G k else nI 40503 * nI k
set_option maxRecDepth 8000 in
theorem gL_cell {G : GX} {w : WS} {k : Nat} (hk : k < 100) (hN : gN G ≤ 260) : Big G 1 0 mL_cell [.ref 1000, .int (nI k)] w (.inl (some (.int (cel G k)))) w := by
  refine big_of (by decide +kernel) (Nat.le_of_ble_eq_true rfl) ?_
  show Ev G 1 0 mL_cell 0 [some (.ref 1000), some (.int (nI k))] [] w _
  refine ev_iload_n dL_cell_0 rfl ?_
  refine ev_aload_n dL_cell_1 rfl ?_
  refine ev_slen dL_cell_2 ?_
  unfold cel
  by_cases h : k < gN G
  · rw [if_pos h]
    refine ev_icmp_ge_f (tgt := 12) dL_cell_3 (by decide) (nI_ge h (by omega)) ?_
    refine ev_aload_n dL_cell_6 rfl ?_
    refine ev_iload_n dL_cell_7 rfl ?_
    refine ev_sload dL_cell_8 rfl h (by omega) ?_
    refine ev_goto (tgt := 16) dL_cell_9 (by decide) ?_
    exact ev_iret dL_cell_16 rfl rfl rfl rfl
  · rw [if_neg h]
    refine ev_icmp_ge_t (tgt := 12) dL_cell_3 (by decide) (Int32.not_lt.mp (nI_nlt (by omega) (by omega))) ?_
    refine ev_ldci ctL_7 dL_cell_12 ?_
    refine ev_iload_n dL_cell_14 rfl ?_
    refine ev_imul dL_cell_15 ?_
    exact ev_iret dL_cell_16 rfl rfl rfl rfl
def ab_ (x : Int32) : Int32 := if 0 ≤ x then x else 0 - x
def bsx (i j : Nat) : Int32 := ab_ (nI (i / 8) - nI (j / 8)) + ab_ (nI (i % 8) - nI (j % 8))
def bsd (i j : Nat) : Bool := bsx i j == nI 1
theorem bsd_nb : ∀ i j : Fin 64, bsd i.val j.val = (List.range 4).any (fun d => nb i.val d == some j.val) := by decide +kernel
set_option maxRecDepth 8000 in
theorem gL_areBeside {G : GX} {w : WS} {i j : Nat} (hi : i < 64) (hj : j < 64) : Big G 1 0 mL_areBeside [.int (nI i), .int (nI j)] w (.inl (some (.int (bI (bsd i j))))) w := by
  refine big_of (by decide +kernel) (Nat.le_of_ble_eq_true rfl) ?_
  show Ev G 1 0 mL_areBeside 0 [some (.int (nI i)), some (.int (nI j))] [] w _
  refine ev_iload_n dL_areBeside_0 rfl ?_
  refine ev_bipush (v := nI 8) dL_areBeside_1 (by decide) ?_
  refine ev_idiv dL_areBeside_3 (by decide) ?_
  refine ev_top (pk_div (by omega) (by decide) (by decide)) ?_
  refine ev_iload_n dL_areBeside_4 rfl ?_
  refine ev_bipush (v := nI 8) dL_areBeside_5 (by decide) ?_
  refine ev_idiv dL_areBeside_7 (by decide) ?_
  refine ev_top (pk_div (by omega) (by decide) (by decide)) ?_
  refine ev_isub dL_areBeside_8 ?_
  refine ev_abs aL_197 dL_areBeside_9 rfl ?_
  refine ev_iload_n dL_areBeside_12 rfl ?_
  refine ev_bipush (v := nI 8) dL_areBeside_13 (by decide) ?_
  refine ev_irem dL_areBeside_15 (by decide) ?_
  refine ev_top (pk_rem (by omega) (by decide) (by decide)) ?_
  refine ev_iload_n dL_areBeside_16 rfl ?_
  refine ev_bipush (v := nI 8) dL_areBeside_17 (by decide) ?_
  refine ev_irem dL_areBeside_19 (by decide) ?_
  refine ev_top (pk_rem (by omega) (by decide) (by decide)) ?_
  refine ev_isub dL_areBeside_20 ?_
  refine ev_abs aL_197 dL_areBeside_21 rfl ?_
  refine ev_iadd dL_areBeside_24 ?_
  refine ev_iconst dL_areBeside_25 ic1 ?_
  by_cases h : bsd i j = true
  · rw [h]
    refine ev_icmp_ne_f (tgt := 33) dL_areBeside_26 (by decide) (show bsx i j = nI 1 from eq_of_beq h) ?_
    refine ev_iconst dL_areBeside_29 ic1 ?_
    refine ev_goto (tgt := 34) dL_areBeside_30 (by decide) ?_
    exact ev_iret dL_areBeside_34 rfl (by decide) rfl rfl
  · rw [Bool.eq_false_iff.mpr h]
    refine ev_icmp_ne_t (tgt := 33) dL_areBeside_26 (by decide) (fun q => h (show (bsx i j == nI 1) = true from beq_iff_eq.mpr q)) ?_
    refine ev_iconst dL_areBeside_33 ic0 ?_
    exact ev_iret dL_areBeside_34 rfl (by decide) rfl rfl
theorem aX_of {A : AS} {w w2 : WS} (e : w2.1 = w.1) (h : aX A w) : aX A w2 := by
  obtain ⟨f, l⟩ := w
  obtain ⟨f2, l2⟩ := w2
  cases e
  exact h
/-- an array of ints that the law made -/
def arI (G : GX) (a n : Nat) (f : Nat → Int32) : Nat × va_E := (a, .inl (gC G 0, n, .inl f))
theorem up_s {g : Nat → Int32} {z : Int32} {i : Nat} : upd (fun j => if j < i then g j else z) i (g i) = fun j => if j < i + 1 then g j else z := by
  funext j
  by_cases e : j = i
  · subst e
    rw [upd_s, if_pos (by omega)]
  · rw [upd_n e]
    by_cases h : j < i
    · rw [if_pos h, if_pos (by omega)]
    · rw [if_neg h, if_neg (by omega)]
theorem ixN_y {n k : Nat} (hk : k < n) (hn : n < 2 ^ 31) : ixN n (nI k) = some k := by
  rcases ixN_or n hn (nI k) with ⟨h, -⟩ | ⟨j, hj, h, h2⟩
  · rcases h with h | h
    · exact absurd h (nI_pos (by omega))
    · exact absurd h (Int32.not_le.mpr (nI_lt hk hn))
  · rw [h2, (nI_eq (by omega) (by omega)).mp h]
theorem ixN_n {n k : Nat} (hk : n ≤ k) (hk2 : k < 2 ^ 31) : ixN n (nI k) = none := by
  unfold ixN
  rw [if_pos (Or.inr (Int32.not_lt.mp (nI_nlt hk hk2)))]
theorem ixN_m {n : Nat} {x : Int32} (hx : x < 0) : ixN n x = none := by
  unfold ixN
  rw [if_pos (Or.inl hx)]
theorem lc_at {S : ST} {c : Nat} (hc : c < 64) {cs : List Int32} : lc_ cs (qAt S (nI c)) = sO S c := by
  unfold qAt
  rw [ixN_y hc (by decide)]
  rfl
set_option maxRecDepth 8000 in
theorem gL_cells {G : GX} {w : WS} {A : AS} (hX : aX A w) : BigP G 21 140 mL_cells [.ref 0] w (fun r w2 => ∃ a, r = some (dy a) ∧ aX A w2 ∧ w2.2 = w.2 ++ [arI G a 64 (fun j => if j < 64 then sO (aS A) j else 0)]) := by
  refine bp_of (by decide +kernel) rfl (Nat.le_of_ble_eq_true rfl) ?_
  show Ev G 21 140 mL_cells 0 [some (.ref 0), none, none] [] w _
  refine ev_bipush (v := nI 64) dL_cells_0 (by decide) ?_
  refine ev_newaT (at_ := .int) (t := 0) (zz := .inl (fun _ => 0)) ac_i rfl rfl ra_i (fun _ => rfl) (by decide) (by decide) (by decide) dL_cells_2 (fun a => ?_)
  refine ev_ast1 dL_cells_4 (by decide) rfl ?_
  refine ev_iconst dL_cells_5 ic0 ?_
  refine ev_ist2 dL_cells_6 (by decide) rfl ?_
  have lp : ∀ (n i : Nat) (w' : WS), i + n = 64 → aX A w' → w'.2 = w.2 ++ [arI G a 64 (fun j => if j < i then sO (aS A) j else 0)] → Ev G 21 (n + 1) mL_cells 7 [some (.ref 0), some (dy a), some (.int (nI i))] [] w' (zP_ G (fun r w2 => ∃ a, r = some (dy a) ∧ aX A w2 ∧ w2.2 = w.2 ++ [arI G a 64 (fun j => if j < 64 then sO (aS A) j else 0)])) := by
    intro n
    induction n with
    | zero =>
      intro i w' hi hX hT
      obtain rfl : i = 64 := by omega
      refine ev_iload_n dL_cells_7 rfl ?_
      refine ev_bipush (v := nI 64) dL_cells_8 (by decide) ?_
      refine ev_icmp_ge_t (tgt := 27) dL_cells_10 (by decide) (Int32.le_refl _) ?_
      refine ev_aload_n dL_cells_27 rfl ?_
      exact ev_aretP dL_cells_28 rfl (Or.inr ⟨_, rfl⟩) ⟨a, rfl, hX, hT⟩
    | succ n ih =>
      intro i w' hi hX hT
      refine ev_iload_n dL_cells_7 rfl ?_
      refine ev_bipush (v := nI 64) dL_cells_8 (by decide) ?_
      refine ev_icmp_ge_f (tgt := 27) dL_cells_10 (by decide) (nI_ge (by omega) (by decide)) ?_
      refine ev_aload_n dL_cells_13 rfl ?_
      refine ev_iload_n dL_cells_14 rfl ?_
      refine ev_aload_n dL_cells_15 rfl ?_
      refine ev_iload_n dL_cells_16 rfl ?_
      refine ev_q kL_195 (as := [.ref 0, .int (nI i)]) (rest := [.int (nI i), dy a]) (hL_realmAt hX (nI i)) dL_cells_17 rfl (by decide) (by omega) rfl (fun w2 hX2 hT2 => ?_)
      rw [lc_at (by omega)]
      refine ev_iastoreT (i := w.2.length) (T2 := w.2 ++ [arI G a 64 (fun j => if j < i + 1 then sO (aS A) j else 0)]) (by rw [hT2, hT]; exact tl0) dL_cells_20 rfl (by omega) (by decide) (by rw [hT2, hT, up_s]; exact ts0) ?_
      refine ev_iinc2 dL_cells_21 (nI_inc _) (by decide) rfl ?_
      refine ev_goto (tgt := 7) dL_cells_24 (by decide) ?_
      exact ev_bu _ (by omega) (ih (i + 1) _ (by omega) (aX_of rfl hX2) rfl)
  exact ev_bu _ (by decide) (lp 64 0 _ rfl (aX_of rfl hX) (by rfl))
/-- one of the first n cells is of r and lies beside c -/
def anb (S : ST) (c : Nat) (r : Int32) (n : Nat) : Bool := (List.range n).any (fun j => bsd c j && sO S j == r)
theorem anb_s (S : ST) (c : Nat) (r : Int32) (n : Nat) : anb S c r (n + 1) = (anb S c r n || (bsd c n && sO S n == r)) := by
  unfold anb
  rw [List.range_succ, List.any_append]
  simp
theorem anb_bes {S : ST} {c : Nat} (hc : c < 64) {r : Int32} : anb S c r 64 = bes S c r := by
  apply Bool.eq_iff_iff.mpr
  unfold anb bes
  rw [List.any_eq_true, List.any_eq_true]
  constructor
  · rintro ⟨j, hj, h⟩
    obtain ⟨h1, h2⟩ := Bool.and_eq_true_iff.mp h
    rw [bsd_nb ⟨c, hc⟩ ⟨j, List.mem_range.mp hj⟩] at h1
    obtain ⟨d, hd, h1⟩ := List.any_eq_true.mp h1
    refine ⟨d, hd, ?_⟩
    unfold hb
    rw [eq_of_beq h1]
    exact h2
  · rintro ⟨d, hd, h⟩
    unfold hb at h
    cases e : nb c d with
    | none =>
      rw [e] at h
      exact Bool.noConfusion h
    | some j =>
      rw [e] at h
      have hj := nb_lt hc e
      refine ⟨j, List.mem_range.mpr hj, Bool.and_eq_true_iff.mpr ⟨?_, h⟩⟩
      rw [bsd_nb ⟨c, hc⟩ ⟨j, hj⟩]
      exact List.any_eq_true.mpr ⟨d, hd, beq_iff_eq.mpr e⟩
set_option maxRecDepth 8000 in
theorem gL_hinders {G : GX} {w : WS} {S : ST} (hok : okS S) {a c r : Nat} {f : Nat → Int32} (hm : arI G a 64 f ∈ w.2) (hf : ∀ j, j < 64 → f j = sO S j) (hc : c < 64) (hr : r < 4) : Big G 2 0 mL_hinders [dy a, .int (nI c), .int (nI r)] w (.inl (some (.int (nI (shS S c (nI r)))))) w := by
  refine big_of (by decide +kernel) (Nat.le_of_ble_eq_true rfl) ?_
  show Ev G 2 0 mL_hinders 0 [some (dy a), some (.int (nI c)), some (.int (nI r)), none, none, none] [] w _
  obtain ⟨q, hq⟩ := List.mem_iff_getElem?.mp hm
  have fin : Ev G 2 0 mL_hinders 68 [some (dy a), some (.int (nI c)), some (.int (nI r)), some (.int (bI (anb S c (nI r) 64))), some (.int (nI (ct (fun j => sO S j == sO S c) 64))), some (.int (nI 64))] [] w (zu_ G (.inl (some (.int (nI (shS S c (nI r)))))) w) := by
    have hbe : anb S c (nI r) 64 = bes S c (nI r) := anb_bes hc
    have hcO : ct (fun j => sO S j == sO S c) 64 = cO S (sO S c) := rfl
    rw [hbe, hcO]
    refine ev_aload_n dL_hinders_68 rfl ?_
    refine ev_iload_n dL_hinders_69 rfl ?_
    refine ev_ialoadT (w := w) (t := 0) hq dL_hinders_70 rfl hc (by decide) ?_
    rw [hf c hc]
    refine ev_iload_n dL_hinders_71 rfl ?_
    by_cases h1 : sO S c = nI r
    · have e : shS S c (nI r) = 1 := by unfold shS; rw [if_pos h1]
      rw [e]
      refine ev_icmp_ne_f (tgt := 79) dL_hinders_72 (by decide) h1 ?_
      refine ev_iconst dL_hinders_75 ic1 ?_
      refine ev_goto (tgt := 108) dL_hinders_76 (by decide) ?_
      exact ev_iret dL_hinders_108 rfl rfl rfl rfl
    · refine ev_icmp_ne_t (tgt := 79) dL_hinders_72 (by decide) h1 ?_
      refine ev_aload_n dL_hinders_79 rfl ?_
      refine ev_iload_n dL_hinders_80 rfl ?_
      refine ev_ialoadT (w := w) (t := 0) hq dL_hinders_81 rfl hc (by decide) ?_
      rw [hf c hc]
      by_cases h2 : sO S c = -1
      · have e : shS S c (nI r) = 3 := by unfold shS; rw [if_neg h1, if_pos h2]
        rw [e]
        refine ev_if_ge_f (tgt := 89) dL_hinders_82 (by decide) (by rw [h2]; decide) ?_
        refine ev_iconst dL_hinders_85 ic3 ?_
        refine ev_goto (tgt := 108) dL_hinders_86 (by decide) ?_
        exact ev_iret dL_hinders_108 rfl rfl rfl rfl
      · refine ev_if_ge_t (tgt := 89) dL_hinders_82 (by decide) (by rcases hok.1 c hc with z | ⟨k, hk4, z⟩ <;> first | exact absurd z h2 | (rw [z]; exact Int32.not_lt.mp (nI_pos (by omega)))) ?_
        refine ev_iload_n dL_hinders_89 rfl ?_
        by_cases h3 : bes S c (nI r) = false
        · have e : shS S c (nI r) = 4 := by unfold shS; rw [if_neg h1, if_neg h2, if_pos h3]
          rw [e, h3]
          refine ev_if_ne_f (tgt := 97) dL_hinders_90 (by decide) rfl ?_
          refine ev_iconst dL_hinders_93 ic4 ?_
          refine ev_goto (tgt := 108) dL_hinders_94 (by decide) ?_
          exact ev_iret dL_hinders_108 rfl rfl rfl rfl
        · have h3t : bes S c (nI r) = true := by cases hh : bes S c (nI r) <;> simp_all
          rw [h3t]
          refine ev_if_ne_t (tgt := 97) dL_hinders_90 (by decide) (by decide) ?_
          refine ev_iload dL_hinders_97 rfl ?_
          refine ev_iconst dL_hinders_99 ic1 ?_
          by_cases h4 : cO S (sO S c) = 1
          · have e : shS S c (nI r) = 5 := by unfold shS; rw [if_neg h1, if_neg h2, if_neg h3, if_pos h4]
            rw [e]
            refine ev_icmp_ne_f (tgt := 107) dL_hinders_100 (by decide) (by rw [h4]) ?_
            refine ev_iconst dL_hinders_103 ic5 ?_
            refine ev_goto (tgt := 108) dL_hinders_104 (by decide) ?_
            exact ev_iret dL_hinders_108 rfl rfl rfl rfl
          · have e : shS S c (nI r) = 0 := by unfold shS; rw [if_neg h1, if_neg h2, if_neg h3, if_neg h4]
            rw [e]
            refine ev_icmp_ne_t (tgt := 107) dL_hinders_100 (by decide) (fun z => h4 ((nI_eq (by have := ct_le (fun k => sO S k == sO S c) 64; show ct _ 64 < _; omega) (by decide)).mp z)) ?_
            refine ev_iconst dL_hinders_107 ic0 ?_
            exact ev_iret dL_hinders_108 rfl rfl rfl rfl
  have lp : ∀ (n i : Nat), i + n = 64 → Ev G 2 0 mL_hinders 8 [some (dy a), some (.int (nI c)), some (.int (nI r)), some (.int (bI (anb S c (nI r) i))), some (.int (nI (ct (fun j => sO S j == sO S c) i))), some (.int (nI i))] [] w (zu_ G (.inl (some (.int (nI (shS S c (nI r)))))) w) := by
    intro n
    induction n with
    | zero =>
      intro i hi
      obtain rfl : i = 64 := by omega
      refine ev_iload dL_hinders_8 rfl ?_
      refine ev_bipush (v := nI 64) dL_hinders_10 (by decide) ?_
      refine ev_icmp_ge_t (tgt := 68) dL_hinders_12 (by decide) (Int32.le_refl _) ?_
      exact fin
    | succ n ih =>
      intro i hi
      have hi64 : i < 64 := by omega
      have part2 : ∀ (B : Bool), B = anb S c (nI r) (i + 1) → Ev G 2 0 mL_hinders 41 [some (dy a), some (.int (nI c)), some (.int (nI r)), some (.int (bI (anb S c (nI r) i))), some (.int (nI (ct (fun j => sO S j == sO S c) i))), some (.int (nI i))] [.int (bI B)] w (zu_ G (.inl (some (.int (nI (shS S c (nI r)))))) w) := by
        intro B hB
        refine ev_ist3 dL_hinders_41 (by decide) rfl ?_
        refine ev_iload dL_hinders_42 rfl ?_
        refine ev_aload_n dL_hinders_44 rfl ?_
        refine ev_iload dL_hinders_45 rfl ?_
        refine ev_ialoadT (w := w) (t := 0) hq dL_hinders_47 rfl hi64 (by decide) ?_
        rw [hf i hi64]
        refine ev_aload_n dL_hinders_48 rfl ?_
        refine ev_iload_n dL_hinders_49 rfl ?_
        refine ev_ialoadT (w := w) (t := 0) hq dL_hinders_50 rfl hc (by decide) ?_
        rw [hf c hc]
        have fin2 : ∀ z : Nat, ct (fun j => sO S j == sO S c) i + z = ct (fun j => sO S j == sO S c) (i + 1) → Ev G 2 0 mL_hinders 59 [some (dy a), some (.int (nI c)), some (.int (nI r)), some (.int (bI B)), some (.int (nI (ct (fun j => sO S j == sO S c) i))), some (.int (nI i))] [.int (nI z), .int (nI (ct (fun j => sO S j == sO S c) i))] w (zu_ G (.inl (some (.int (nI (shS S c (nI r)))))) w) := by
          intro z hz
          refine ev_iadd dL_hinders_59 ?_
          refine ev_top (nI_add _ _) ?_
          rw [hz, hB]
          refine ev_ist4 dL_hinders_60 (by decide) rfl ?_
          refine ev_iinc5 dL_hinders_62 (nI_inc _) (by decide) rfl ?_
          refine ev_goto (tgt := 8) dL_hinders_65 (by decide) ?_
          exact ih (i + 1) (by omega)
        by_cases h : sO S i = sO S c
        · refine ev_icmp_ne_f (tgt := 58) dL_hinders_51 (by decide) h ?_
          refine ev_iconst dL_hinders_54 ic1 ?_
          refine ev_goto (tgt := 59) dL_hinders_55 (by decide) ?_
          exact fin2 1 (ct_t (by simp [h])).symm
        · refine ev_icmp_ne_t (tgt := 58) dL_hinders_51 (by decide) h ?_
          refine ev_iconst dL_hinders_58 ic0 ?_
          exact fin2 0 (by rw [ct_f (by simp [h])]; rfl)
      refine ev_iload dL_hinders_8 rfl ?_
      refine ev_bipush (v := nI 64) dL_hinders_10 (by decide) ?_
      refine ev_icmp_ge_f (tgt := 68) dL_hinders_12 (by decide) (nI_ge (by omega) (by decide)) ?_
      refine ev_iload_n dL_hinders_15 rfl ?_
      cases hA : anb S c (nI r) i with
      | true =>
        rw [hA] at part2
        refine ev_if_ne_t (tgt := 36) dL_hinders_16 (by decide) (by decide) ?_
        refine ev_iconst dL_hinders_36 ic1 ?_
        refine ev_goto (tgt := 41) dL_hinders_37 (by decide) ?_
        exact part2 true (by rw [anb_s, hA]; rfl)
      | false =>
        rw [hA] at part2
        refine ev_if_ne_f (tgt := 36) dL_hinders_16 (by decide) rfl ?_
        refine ev_iload_n dL_hinders_19 rfl ?_
        refine ev_iload dL_hinders_20 rfl ?_
        refine ev_callS (w := w) kL_200 (as := [.int (nI c), .int (nI i)]) (rest := []) (gL_areBeside hc hi64) dL_hinders_22 rfl (by decide) (by decide) rfl ?_
        cases hb2 : bsd c i with
        | false =>
          refine ev_if_eq_t (tgt := 40) dL_hinders_25 (by decide) rfl ?_
          refine ev_iconst dL_hinders_40 ic0 ?_
          exact part2 false (by rw [anb_s, hA, hb2]; rfl)
        | true =>
          refine ev_if_eq_f (tgt := 40) dL_hinders_25 (by decide) (by decide) ?_
          refine ev_aload_n dL_hinders_28 rfl ?_
          refine ev_iload dL_hinders_29 rfl ?_
          refine ev_ialoadT (w := w) (t := 0) hq dL_hinders_31 rfl hi64 (by decide) ?_
          rw [hf i hi64]
          refine ev_iload_n dL_hinders_32 rfl ?_
          by_cases h : sO S i = nI r
          · refine ev_icmp_ne_f (tgt := 40) dL_hinders_33 (by decide) h ?_
            refine ev_iconst dL_hinders_36 ic1 ?_
            refine ev_goto (tgt := 41) dL_hinders_37 (by decide) ?_
            exact part2 true (by rw [anb_s, hA, hb2]; simp [h])
          · refine ev_icmp_ne_t (tgt := 40) dL_hinders_33 (by decide) h ?_
            refine ev_iconst dL_hinders_40 ic0 ?_
            exact part2 false (by rw [anb_s, hA, hb2]; simp [h])
  refine ev_iconst dL_hinders_0 ic0 ?_
  refine ev_ist3 dL_hinders_1 (by decide) rfl ?_
  refine ev_iconst dL_hinders_2 ic0 ?_
  refine ev_ist4 dL_hinders_3 (by decide) rfl ?_
  refine ev_iconst dL_hinders_5 ic0 ?_
  refine ev_ist5 dL_hinders_6 (by decide) rfl ?_
  exact lp 64 0 rfl
