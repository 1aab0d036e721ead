/-! the law's sum of all that is told of a map -/
section
variable {G : GX} {d b : Nat} {M : MT} {pc : Nat} {w : WS} {Z : ZT} {st : List Value} {q : List (Option Value)} {a0 a1 a2 : Option Value} {x : Int64}
theorem ev_lst1 (hd : decode M.2.1 pc = .ok (.lstore_n 1, 1)) (hn : 2 < M.2.2.1) (hc : c1_ (a0 :: a1 :: a2 :: q) 1 = true)
    (K : Ev G d b M (pc + 1) (a0 :: some (.long x) :: none :: q) st w Z) : Ev G d b M pc (a0 :: a1 :: a2 :: q) (.long x :: st) w Z := by
  intro p e R s m args below meth c H locs cells slots lsA C r hP hD hS hL
  refine lv_lstore_n C.2.1 C.2.2.1 hd (i := 1) rfl hL hn rfl (fun lsB hB => K p e R s m args below meth c H locs cells slots lsB C r hP hD hS ⟨hB.1, hB.2.1, fun z hz => ?_⟩)
  obtain ⟨j, v, h1, h2⟩ := pr_mem.mp hz
  rw [Nat.zero_add] at h2
  match j, h1, h2 with
  | 0, h1, h2 =>
    refine hB.2.2 z (List.mem_cons_of_mem _ (List.mem_filter.mpr ⟨pr_mem.mpr ⟨0, v, h1, by simpa using h2⟩, ?_⟩))
    rw [h2]
    have h3 := c1_at hc (j := 0) rfl (v := v) h1
    simp only [cv_cat, h3]
    decide
  | 1, h1, h2 =>
    have h3 : v = .long x := (Option.some.inj (Option.some.inj h1)).symm
    subst h3
    exact hB.2.2 z (List.mem_cons.mpr (Or.inl h2))
  | 2, h1, h2 => exact absurd h1 (by simp)
  | k + 3, h1, h2 =>
    refine hB.2.2 z (List.mem_cons_of_mem _ (List.mem_filter.mpr ⟨pr_mem.mpr ⟨k + 3, v, h1, by simpa using h2⟩, ?_⟩))
    rw [h2]
    simp
theorem ev_lld1 (hd : decode M.2.1 pc = .ok (.lload_n 1, 1)) (K : Ev G d b M (pc + 1) (a0 :: some (.long x) :: q) (.long x :: st) w Z) : Ev G d b M pc (a0 :: some (.long x) :: q) st w Z := by
  intro p e R s m args below meth c H locs cells slots lsA C r hP hD hS hL
  exact lv_lload_n C.2.1 C.2.2.1 hd (i := 1) rfl (ls_at hL (v := .long x) rfl) (K p e R s m args below meth c H locs cells slots lsA C r hP hD hS hL)
end
/-- a sum that takes in one number after the other -/
def hs_ (c : Int64) (f : Nat → Int32) : Nat → Int64 → Int64
  | 0, h => h
  | n + 1, h => c * hs_ c f n h + (f n).toInt64
theorem hs_0 {c : Int64} {f : Nat → Int32} {h : Int64} : hs_ c f 0 h = h := rfl
theorem hs_s {c : Int64} {f : Nat → Int32} {n : Nat} {h : Int64} : hs_ c f (n + 1) h = c * hs_ c f n h + (f n).toInt64 := rfl
def acS (S : ST) (k : Nat) : Int32 := acV (mkA S none [] 0 (fun _ => 0) [] [] none) k
theorem ac_S {A : AS} {k : Nat} (h : k < 9) : acV A k = acS (aS A) k := by
  obtain rfl | rfl | rfl | rfl | rfl | rfl | rfl | rfl | rfl : k = 0 ∨ k = 1 ∨ k = 2 ∨ k = 3 ∨ k = 4 ∨ k = 5 ∨ k = 6 ∨ k = 7 ∨ k = 8 := by omega
  all_goals rfl
/-- what the law's sum of a map is -/
def smF (S : ST) : Int64 := hs_ 47 (fun k => drV S (k / 3) (k % 3)) (3 * nD S) (hs_ 43 (fun k => rvV S (k / 6) (k % 6)) (6 * nR S) (hs_ 41 (fun k => roV S (k / 6) (k % 6)) 24 (hs_ 37 (fun k => sO S k) 64 (hs_ 31 (fun k => acS S k) 9 7))))
set_option maxRecDepth 8000 in
theorem gL_sum {G : GX} {w : WS} {A : AS} (hX : aX A w) : BigP G 21 250 mL_sum [.ref 0] w (fun r w2 => r = some (.long (smF (aS A))) ∧ aX A w2 ∧ w2.2 = w.2) := by
  refine bp_of (by decide +kernel) rfl (Nat.le_of_ble_eq_true rfl) ?_
  show Ev G 21 250 mL_sum 0 [some (.ref 0), none, none, none] [] w _
  have ho := hX.1.2
  have hn4 := ho.2.1.1
  have hn5 := ho.2.2.1.1
  have l5 : ∀ (n i : Nat) (w' : WS), i + n = (3 * nD (aS A)) → aX A w' → w'.2 = w.2 → Ev G 21 (2 * n + 1) mL_sum 134 [some (.ref 0), some (.long (hs_ 47 (fun k => drV (aS A) (k / 3) (k % 3)) i (hs_ 43 (fun k => rvV (aS A) (k / 6) (k % 6)) (6 * nR (aS A)) (hs_ 41 (fun k => roV (aS A) (k / 6) (k % 6)) 24 (hs_ 37 (fun k => sO (aS A) k) 64 (hs_ 31 (fun k => acS (aS A) k) 9 7)))))), none, some (.int (nI i))] [] w' (zP_ G (fun r w2 => r = some (.long (smF (aS A))) ∧ aX A w2 ∧ w2.2 = w.2)) := by
    intro n
    induction n with
    | zero =>
      intro i w' hi hX hT
      obtain rfl : i = (3 * nD (aS A)) := by omega
      refine ev_iload_n dL_sum_134 rfl ?_
      refine ev_iconst dL_sum_135 ic3 ?_
      refine ev_aload_n dL_sum_136 rfl ?_
      refine ev_iconst dL_sum_137 ic2 ?_
      refine ev_qc kL_255 co0 (as := [.int (nI 2)]) (rest := [.int (nI 3), .int (nI (3 * nD (aS A)))]) (fX11_account_y (G := G) hX (i := 2) (by omega)) dL_sum_138 rfl (by decide) (by omega) rfl (fun w2 hX hT2 => ?_)
      rw [show acV A 2 = nI (nD (aS A)) from rfl]
      replace hT := hT2.trans hT
      refine ev_imul dL_sum_141 ?_
      refine ev_top (pk_mul _ _) ?_
      refine ev_icmp_ge_t (tgt := 169) dL_sum_142 (by decide) (Int32.le_refl _) ?_
      refine ev_lld1 dL_sum_169 ?_
      exact ev_lretP dL_sum_170 rfl ⟨rfl, hX, hT⟩
    | succ n ih =>
      intro i w' hi hX hT
      refine ev_iload_n dL_sum_134 rfl ?_
      refine ev_iconst dL_sum_135 ic3 ?_
      refine ev_aload_n dL_sum_136 rfl ?_
      refine ev_iconst dL_sum_137 ic2 ?_
      refine ev_qc kL_255 co0 (as := [.int (nI 2)]) (rest := [.int (nI 3), .int (nI i)]) (fX11_account_y (G := G) hX (i := 2) (by omega)) dL_sum_138 rfl (by decide) (by omega) rfl (fun w2 hX hT2 => ?_)
      rw [show acV A 2 = nI (nD (aS A)) from rfl]
      replace hT := hT2.trans hT
      refine ev_imul dL_sum_141 ?_
      refine ev_top (pk_mul _ _) ?_
      refine ev_icmp_ge_f (tgt := 169) dL_sum_142 (by decide) (nI_ge (by omega) (by omega)) ?_
      refine ev_ldc2 ctL_341 dL_sum_145 ?_
      refine ev_lld1 dL_sum_148 ?_
      refine ev_lmul dL_sum_149 ?_
      refine ev_aload_n dL_sum_150 rfl ?_
      refine ev_iload_n dL_sum_151 rfl ?_
      refine ev_iconst dL_sum_152 ic3 ?_
      refine ev_idiv dL_sum_153 (by decide) ?_
      refine ev_top (pk_div (by omega) (by decide) (by decide)) ?_
      refine ev_iload_n dL_sum_154 rfl ?_
      refine ev_iconst dL_sum_155 ic3 ?_
      refine ev_irem dL_sum_156 (by decide) ?_
      refine ev_top (pk_rem (by omega) (by decide) (by decide)) ?_
      refine ev_q kL_298 (as := [.ref 0, .int (nI (i / 3)), .int (nI (i % 3))]) (rest := [.long (47 * (hs_ 47 (fun k => drV (aS A) (k / 3) (k % 3)) i (hs_ 43 (fun k => rvV (aS A) (k / 6) (k % 6)) (6 * nR (aS A)) (hs_ 41 (fun k => roV (aS A) (k / 6) (k % 6)) 24 (hs_ 37 (fun k => sO (aS A) k) 64 (hs_ 31 (fun k => acS (aS A) k) 9 7))))))]) (hL_dragonOf hX ((nI (i / 3))) ((nI (i % 3)))) dL_sum_157 rfl (by decide) (by omega) rfl (fun w2 hX hT2 => ?_)
      rw [lc_dr ho (by omega) (by omega)]
      replace hT := hT2.trans hT
      refine ev_i2l dL_sum_160 ?_
      refine ev_ladd dL_sum_161 ?_
      refine ev_lst1 dL_sum_162 (by decide) rfl ?_
      refine ev_iinc3 dL_sum_163 (nI_inc _) (by decide) rfl ?_
      refine ev_goto (tgt := 134) dL_sum_166 (by decide) ?_
      have q := ih (i + 1) _ (by omega) (aX_of rfl hX) hT
      rw [hs_s] at q
      exact ev_bu _ (by omega) q
  have l4 : ∀ (n i : Nat) (w' : WS), i + n = (6 * nR (aS A)) → aX A w' → w'.2 = w.2 → Ev G 21 (2 * n + 32) mL_sum 94 [some (.ref 0), some (.long (hs_ 43 (fun k => rvV (aS A) (k / 6) (k % 6)) i (hs_ 41 (fun k => roV (aS A) (k / 6) (k % 6)) 24 (hs_ 37 (fun k => sO (aS A) k) 64 (hs_ 31 (fun k => acS (aS A) k) 9 7))))), none, some (.int (nI i))] [] w' (zP_ G (fun r w2 => r = some (.long (smF (aS A))) ∧ aX A w2 ∧ w2.2 = w.2)) := by
    intro n
    induction n with
    | zero =>
      intro i w' hi hX hT
      obtain rfl : i = (6 * nR (aS A)) := by omega
      refine ev_iload_n dL_sum_94 rfl ?_
      refine ev_bipush (v := nI 6) dL_sum_95 (by decide) ?_
      refine ev_aload_n dL_sum_97 rfl ?_
      refine ev_iconst dL_sum_98 ic1 ?_
      refine ev_qc kL_255 co0 (as := [.int (nI 1)]) (rest := [.int (nI 6), .int (nI (6 * nR (aS A)))]) (fX11_account_y (G := G) hX (i := 1) (by omega)) dL_sum_99 rfl (by decide) (by omega) rfl (fun w2 hX hT2 => ?_)
      rw [show acV A 1 = nI (nR (aS A)) from rfl]
      replace hT := hT2.trans hT
      refine ev_imul dL_sum_102 ?_
      refine ev_top (pk_mul _ _) ?_
      refine ev_icmp_ge_t (tgt := 132) dL_sum_103 (by decide) (Int32.le_refl _) ?_
      refine ev_iconst dL_sum_132 ic0 ?_
      refine ev_ist3 dL_sum_133 (by decide) rfl ?_
      have q := l5 (3 * nD (aS A)) 0 _ (by omega) (aX_of rfl hX) hT
      rw [hs_0] at q
      exact ev_bu _ (by omega) q
    | succ n ih =>
      intro i w' hi hX hT
      refine ev_iload_n dL_sum_94 rfl ?_
      refine ev_bipush (v := nI 6) dL_sum_95 (by decide) ?_
      refine ev_aload_n dL_sum_97 rfl ?_
      refine ev_iconst dL_sum_98 ic1 ?_
      refine ev_qc kL_255 co0 (as := [.int (nI 1)]) (rest := [.int (nI 6), .int (nI i)]) (fX11_account_y (G := G) hX (i := 1) (by omega)) dL_sum_99 rfl (by decide) (by omega) rfl (fun w2 hX hT2 => ?_)
      rw [show acV A 1 = nI (nR (aS A)) from rfl]
      replace hT := hT2.trans hT
      refine ev_imul dL_sum_102 ?_
      refine ev_top (pk_mul _ _) ?_
      refine ev_icmp_ge_f (tgt := 132) dL_sum_103 (by decide) (nI_ge (by omega) (by omega)) ?_
      refine ev_ldc2 ctL_339 dL_sum_106 ?_
      refine ev_lld1 dL_sum_109 ?_
      refine ev_lmul dL_sum_110 ?_
      refine ev_aload_n dL_sum_111 rfl ?_
      refine ev_iload_n dL_sum_112 rfl ?_
      refine ev_bipush (v := nI 6) dL_sum_113 (by decide) ?_
      refine ev_idiv dL_sum_115 (by decide) ?_
      refine ev_top (pk_div (by omega) (by decide) (by decide)) ?_
      refine ev_iload_n dL_sum_116 rfl ?_
      refine ev_bipush (v := nI 6) dL_sum_117 (by decide) ?_
      refine ev_irem dL_sum_119 (by decide) ?_
      refine ev_top (pk_rem (by omega) (by decide) (by decide)) ?_
      refine ev_q kL_276 (as := [.ref 0, .int (nI (i / 6)), .int (nI (i % 6))]) (rest := [.long (43 * (hs_ 43 (fun k => rvV (aS A) (k / 6) (k % 6)) i (hs_ 41 (fun k => roV (aS A) (k / 6) (k % 6)) 24 (hs_ 37 (fun k => sO (aS A) k) 64 (hs_ 31 (fun k => acS (aS A) k) 9 7)))))]) (hL_riverOf hX ((nI (i / 6))) ((nI (i % 6)))) dL_sum_120 rfl (by decide) (by omega) rfl (fun w2 hX hT2 => ?_)
      rw [lc_rv ho (by omega) (by omega)]
      replace hT := hT2.trans hT
      refine ev_i2l dL_sum_123 ?_
      refine ev_ladd dL_sum_124 ?_
      refine ev_lst1 dL_sum_125 (by decide) rfl ?_
      refine ev_iinc3 dL_sum_126 (nI_inc _) (by decide) rfl ?_
      refine ev_goto (tgt := 94) dL_sum_129 (by decide) ?_
      have q := ih (i + 1) _ (by omega) (aX_of rfl hX) hT
      rw [hs_s] at q
      exact ev_bu _ (by omega) q
  have l3 : ∀ (n i : Nat) (w' : WS), i + n = 24 → aX A w' → w'.2 = w.2 → Ev G 21 (1 * n + 80) mL_sum 60 [some (.ref 0), some (.long (hs_ 41 (fun k => roV (aS A) (k / 6) (k % 6)) i (hs_ 37 (fun k => sO (aS A) k) 64 (hs_ 31 (fun k => acS (aS A) k) 9 7)))), none, some (.int (nI i))] [] w' (zP_ G (fun r w2 => r = some (.long (smF (aS A))) ∧ aX A w2 ∧ w2.2 = w.2)) := by
    intro n
    induction n with
    | zero =>
      intro i w' hi hX hT
      obtain rfl : i = 24 := by omega
      refine ev_iload_n dL_sum_60 rfl ?_
      refine ev_bipush (v := nI 24) dL_sum_61 (by decide) ?_
      refine ev_icmp_ge_t (tgt := 92) dL_sum_63 (by decide) (Int32.le_refl _) ?_
      refine ev_iconst dL_sum_92 ic0 ?_
      refine ev_ist3 dL_sum_93 (by decide) rfl ?_
      have q := l4 (6 * nR (aS A)) 0 _ (by omega) (aX_of rfl hX) hT
      rw [hs_0] at q
      exact ev_bu _ (by omega) q
    | succ n ih =>
      intro i w' hi hX hT
      refine ev_iload_n dL_sum_60 rfl ?_
      refine ev_bipush (v := nI 24) dL_sum_61 (by decide) ?_
      refine ev_icmp_ge_f (tgt := 92) dL_sum_63 (by decide) (nI_ge (by omega) (by omega)) ?_
      refine ev_ldc2 ctL_337 dL_sum_66 ?_
      refine ev_lld1 dL_sum_69 ?_
      refine ev_lmul dL_sum_70 ?_
      refine ev_aload_n dL_sum_71 rfl ?_
      refine ev_iload_n dL_sum_72 rfl ?_
      refine ev_bipush (v := nI 6) dL_sum_73 (by decide) ?_
      refine ev_idiv dL_sum_75 (by decide) ?_
      refine ev_top (pk_div (by omega) (by decide) (by decide)) ?_
      refine ev_iload_n dL_sum_76 rfl ?_
      refine ev_bipush (v := nI 6) dL_sum_77 (by decide) ?_
      refine ev_irem dL_sum_79 (by decide) ?_
      refine ev_top (pk_rem (by omega) (by decide) (by decide)) ?_
      refine ev_q kL_237 (as := [.ref 0, .int (nI (i / 6)), .int (nI (i % 6))]) (rest := [.long (41 * (hs_ 41 (fun k => roV (aS A) (k / 6) (k % 6)) i (hs_ 37 (fun k => sO (aS A) k) 64 (hs_ 31 (fun k => acS (aS A) k) 9 7))))]) (hL_realmOf hX ((nI (i / 6))) ((nI (i % 6)))) dL_sum_80 rfl (by decide) (by omega) rfl (fun w2 hX hT2 => ?_)
      rw [lc_ro (by omega) (by omega)]
      replace hT := hT2.trans hT
      refine ev_i2l dL_sum_83 ?_
      refine ev_ladd dL_sum_84 ?_
      refine ev_lst1 dL_sum_85 (by decide) rfl ?_
      refine ev_iinc3 dL_sum_86 (nI_inc _) (by decide) rfl ?_
      refine ev_goto (tgt := 60) dL_sum_89 (by decide) ?_
      have q := ih (i + 1) _ (by omega) (aX_of rfl hX) hT
      rw [hs_s] at q
      exact ev_bu _ (by omega) q
  have l2 : ∀ (n i : Nat) (w' : WS), i + n = 64 → aX A w' → w'.2 = w.2 → Ev G 21 (1 * n + 104) mL_sum 33 [some (.ref 0), some (.long (hs_ 37 (fun k => sO (aS A) k) i (hs_ 31 (fun k => acS (aS A) k) 9 7))), none, some (.int (nI i))] [] w' (zP_ G (fun r w2 => r = some (.long (smF (aS A))) ∧ aX A w2 ∧ w2.2 = w.2)) := by
    intro n
    induction n with
    | zero =>
      intro i w' hi hX hT
      obtain rfl : i = 64 := by omega
      refine ev_iload_n dL_sum_33 rfl ?_
      refine ev_bipush (v := nI 64) dL_sum_34 (by decide) ?_
      refine ev_icmp_ge_t (tgt := 58) dL_sum_36 (by decide) (Int32.le_refl _) ?_
      refine ev_iconst dL_sum_58 ic0 ?_
      refine ev_ist3 dL_sum_59 (by decide) rfl ?_
      have q := l3 24 0 _ (by omega) (aX_of rfl hX) hT
      rw [hs_0] at q
      exact ev_bu _ (by omega) q
    | succ n ih =>
      intro i w' hi hX hT
      refine ev_iload_n dL_sum_33 rfl ?_
      refine ev_bipush (v := nI 64) dL_sum_34 (by decide) ?_
      refine ev_icmp_ge_f (tgt := 58) dL_sum_36 (by decide) (nI_ge (by omega) (by omega)) ?_
      refine ev_ldc2 ctL_335 dL_sum_39 ?_
      refine ev_lld1 dL_sum_42 ?_
      refine ev_lmul dL_sum_43 ?_
      refine ev_aload_n dL_sum_44 rfl ?_
      refine ev_iload_n dL_sum_45 rfl ?_
      refine ev_q kL_195 (as := [.ref 0, .int (nI i)]) (rest := [.long (37 * (hs_ 37 (fun k => sO (aS A) k) i (hs_ 31 (fun k => acS (aS A) k) 9 7)))]) (hL_realmAt hX ((nI i))) dL_sum_46 rfl (by decide) (by omega) rfl (fun w2 hX hT2 => ?_)
      rw [lc_at (by omega)]
      replace hT := hT2.trans hT
      refine ev_i2l dL_sum_49 ?_
      refine ev_ladd dL_sum_50 ?_
      refine ev_lst1 dL_sum_51 (by decide) rfl ?_
      refine ev_iinc3 dL_sum_52 (nI_inc _) (by decide) rfl ?_
      refine ev_goto (tgt := 33) dL_sum_55 (by decide) ?_
      have q := ih (i + 1) _ (by omega) (aX_of rfl hX) hT
      rw [hs_s] at q
      exact ev_bu _ (by omega) q
  have l1 : ∀ (n i : Nat) (w' : WS), i + n = 9 → aX A w' → w'.2 = w.2 → Ev G 21 (1 * n + 168) mL_sum 6 [some (.ref 0), some (.long (hs_ 31 (fun k => acS (aS A) k) i 7)), none, some (.int (nI i))] [] w' (zP_ G (fun r w2 => r = some (.long (smF (aS A))) ∧ aX A w2 ∧ w2.2 = w.2)) := by
    intro n
    induction n with
    | zero =>
      intro i w' hi hX hT
      obtain rfl : i = 9 := by omega
      refine ev_iload_n dL_sum_6 rfl ?_
      refine ev_bipush (v := nI 9) dL_sum_7 (by decide) ?_
      refine ev_icmp_ge_t (tgt := 31) dL_sum_9 (by decide) (Int32.le_refl _) ?_
      refine ev_iconst dL_sum_31 ic0 ?_
      refine ev_ist3 dL_sum_32 (by decide) rfl ?_
      have q := l2 64 0 _ (by omega) (aX_of rfl hX) hT
      rw [hs_0] at q
      exact ev_bu _ (by omega) q
    | succ n ih =>
      intro i w' hi hX hT
      refine ev_iload_n dL_sum_6 rfl ?_
      refine ev_bipush (v := nI 9) dL_sum_7 (by decide) ?_
      refine ev_icmp_ge_f (tgt := 31) dL_sum_9 (by decide) (nI_ge (by omega) (by omega)) ?_
      refine ev_ldc2 ctL_333 dL_sum_12 ?_
      refine ev_lld1 dL_sum_15 ?_
      refine ev_lmul dL_sum_16 ?_
      refine ev_aload_n dL_sum_17 rfl ?_
      refine ev_iload_n dL_sum_18 rfl ?_
      refine ev_qc kL_255 co0 (as := [.int (nI i)]) (rest := [.long (31 * (hs_ 31 (fun k => acS (aS A) k) i 7))]) (fX11_account_y (G := G) hX (i := i) (by omega)) dL_sum_19 rfl (by decide) (by omega) rfl (fun w2 hX hT2 => ?_)
      rw [ac_S (by omega)]
      replace hT := hT2.trans hT
      refine ev_i2l dL_sum_22 ?_
      refine ev_ladd dL_sum_23 ?_
      refine ev_lst1 dL_sum_24 (by decide) rfl ?_
      refine ev_iinc3 dL_sum_25 (nI_inc _) (by decide) rfl ?_
      refine ev_goto (tgt := 6) dL_sum_28 (by decide) ?_
      have q := ih (i + 1) _ (by omega) (aX_of rfl hX) hT
      rw [hs_s] at q
      exact ev_bu _ (by omega) q
  refine ev_ldc2 ctL_331 dL_sum_0 ?_
  refine ev_lst1 dL_sum_3 (by decide) rfl ?_
  refine ev_iconst dL_sum_4 ic0 ?_
  refine ev_ist3 dL_sum_5 (by decide) rfl ?_
  have q := l1 9 0 w rfl (aX_of rfl hX) rfl
  rw [hs_0] at q
  exact ev_bu _ (by omega) q
