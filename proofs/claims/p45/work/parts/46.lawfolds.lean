/-! the law's judgement of the folds -/
/-- the first of 1 .. n that tells the fewest, as the law goes on with it: none of none -/
def bs0 (f : Nat → Nat) (n : Nat) : Nat := if n = 0 then 0 else bst f n
def ls0 (B : Nat) (f : Nat → Nat) (n : Nat) : Nat := if n = 0 then B else f (bst f n)
theorem bs0_p {f : Nat → Nat} {n : Nat} : bs0 f (n + 1) = bst f (n + 1) := if_neg (Nat.succ_ne_zero n)
theorem bs0_s {B : Nat} {f : Nat → Nat} {n : Nat} (hB : f (n + 1) < B) : bs0 f (n + 1) = if f (n + 1) < ls0 B f n then n + 1 else bs0 f n := by
  unfold bs0 ls0
  rw [if_neg (Nat.succ_ne_zero n)]
  by_cases h : n = 0
  · subst h
    rw [if_pos rfl, if_pos rfl, if_pos hB]
    rfl
  · rw [if_neg h, if_neg h, bst_s f (by omega)]
theorem ls0_s {B : Nat} {f : Nat → Nat} {n : Nat} (hB : f (n + 1) < B) : ls0 B f (n + 1) = min (ls0 B f n) (f (n + 1)) := by
  have h1 := bs0_s (B := B) hB
  unfold bs0 at h1
  rw [if_neg (Nat.succ_ne_zero n)] at h1
  rw [show ls0 B f (n + 1) = f (bst f (n + 1)) from if_neg (Nat.succ_ne_zero n), h1]
  by_cases h : f (n + 1) < ls0 B f n
  · rw [if_pos h]
    omega
  · rw [if_neg h]
    have e : f (if n = 0 then 0 else bst f n) = ls0 B f n := by
      unfold ls0 at h ⊢
      by_cases z : n = 0
      · subst z
        rw [if_pos rfl] at h
        omega
      · rw [if_neg z, if_neg z]
    rw [e]
    omega
set_option maxRecDepth 8000 in
theorem gL_folds_a {G : GX} {bb : Nat} {w : WS} {T : va_W} {S : ST} {a : Nat} (hT : w.2 = T ++ [arI G a 64 (cE S)]) {b : Bool} {c k L0 : Nat} (hk : k < c) (hc : c + k < 8) {v3 v4 : Option Value} {Z : ZT}
    (K : Ev G 22 bb mL_folds 140 [some (.ref 0), some (dy a), some (.int (bI (!b))), v3, v4, some (.int (nI (c))), some (.int (nI (L0 + ct (lyf S b c k) 8))), some (.int (nI (c - 1 - k))), some (.int (nI (c + k))), some (.int (nI (8)))] [] w Z) :
    ∀ (n y : Nat), y + n = 8 → Ev G 22 bb mL_folds 57 [some (.ref 0), some (dy a), some (.int (bI (!b))), v3, v4, some (.int (nI (c))), some (.int (nI (L0 + ct (lyf S b c k) y))), some (.int (nI (c - 1 - k))), some (.int (nI (c + k))), some (.int (nI (y)))] [] w Z := by
  intro n
  induction n with
  | zero =>
    intro y hy
    obtain rfl : y = 8 := by omega
    refine ev_iload dL_folds_57 rfl ?_
    refine ev_bipush (v := nI 8) dL_folds_59 (by decide) ?_
    refine ev_icmp_ge_t (tgt := 140) dL_folds_61 (by decide) (Int32.le_refl _) ?_
    exact K
  | succ n ih =>
    intro y hy
    have hy8 : y < 8 := by omega
    have i0 : ix_ b (c - 1 - k) y < 64 := ix_lt (by omega) hy8
    have i1 : ix_ b (c + k) y < 64 := ix_lt (by omega) hy8
    have at131 : ∀ x : Nat, ct (lyf S b c k) y + x = ct (lyf S b c k) (y + 1) → Ev G 22 bb mL_folds 131 [some (.ref 0), some (dy a), some (.int (bI (!b))), v3, v4, some (.int (nI (c))), some (.int (nI (L0 + ct (lyf S b c k) y))), some (.int (nI (c - 1 - k))), some (.int (nI (c + k))), some (.int (nI (y)))] [.int (nI x), .int (nI (L0 + ct (lyf S b c k) y))] w Z := by
      intro x hx
      refine ev_iadd dL_folds_131 ?_
      refine ev_top (nI_add _ _) ?_
      rw [Nat.add_assoc, hx]
      refine ev_ist6 dL_folds_132 (by decide) rfl ?_
      refine ev_iinc9 dL_folds_134 (nI_inc _) (by decide) rfl ?_
      refine ev_goto (tgt := 57) dL_folds_137 (by decide) ?_
      exact ih (y + 1) (by omega)
    have at122 : Ev G 22 bb mL_folds 122 [some (.ref 0), some (dy a), some (.int (bI (!b))), v3, v4, some (.int (nI (c))), some (.int (nI (L0 + ct (lyf S b c k) y))), some (.int (nI (c - 1 - k))), some (.int (nI (c + k))), some (.int (nI (y)))] [.int (nI (ix_ b (c + k) y)), dy a, .int (sO S (ix_ b (c - 1 - k) y)), .int (nI (L0 + ct (lyf S b c k) y))] w Z := by
      refine ev_ialoadT (w := w) (t := 0) (i := T.length) (f := cE S) (j := ix_ b (c + k) y) (by rw [hT]; exact tl0) dL_folds_122 rfl i1 (by decide) ?_
      refine ev_top (cE_at i1) ?_
      by_cases e : sO S (ix_ b (c - 1 - k) y) = sO S (ix_ b (c + k) y)
      · refine ev_icmp_eq_t (tgt := 130) dL_folds_123 (by decide) e ?_
        refine ev_iconst dL_folds_130 ic0 ?_
        exact at131 0 (by rw [ct_f (by unfold lyf; rw [e]; simp)]; rfl)
      · refine ev_icmp_eq_f (tgt := 130) dL_folds_123 (by decide) e ?_
        refine ev_iconst dL_folds_126 ic1 ?_
        refine ev_goto (tgt := 131) dL_folds_127 (by decide) ?_
        exact at131 1 (ct_t (by unfold lyf; simp [e])).symm
    have at97 : Ev G 22 bb mL_folds 97 [some (.ref 0), some (dy a), some (.int (bI (!b))), v3, v4, some (.int (nI (c))), some (.int (nI (L0 + ct (lyf S b c k) y))), some (.int (nI (c - 1 - k))), some (.int (nI (c + k))), some (.int (nI (y)))] [.int (nI (ix_ b (c - 1 - k) y)), dy a, .int (nI (L0 + ct (lyf S b c k) y))] w Z := by
      refine ev_ialoadT (w := w) (t := 0) (i := T.length) (f := cE S) (j := ix_ b (c - 1 - k) y) (by rw [hT]; exact tl0) dL_folds_97 rfl i0 (by decide) ?_
      refine ev_top (cE_at i0) ?_
      refine ev_aload_n dL_folds_98 rfl ?_
      refine ev_iload_n dL_folds_99 rfl ?_
      cases b with
      | true =>
        refine ev_if_ne_f (tgt := 114) dL_folds_100 (by decide) rfl ?_
        refine ev_bipush (v := nI 8) dL_folds_103 (by decide) ?_
        refine ev_iload dL_folds_105 rfl ?_
        refine ev_imul dL_folds_107 ?_
        refine ev_top (pk_mul _ _) ?_
        refine ev_iload dL_folds_108 rfl ?_
        refine ev_iadd dL_folds_110 ?_
        refine ev_top (nI_add _ _) ?_
        refine ev_goto (tgt := 122) dL_folds_111 (by decide) ?_
        refine ev_top (y := nI (ix_ true (c + k) y)) (congrArg nI (by unfold ix_; simp; omega)) ?_
        exact at122
      | false =>
        refine ev_if_ne_t (tgt := 114) dL_folds_100 (by decide) (by decide) ?_
        refine ev_bipush (v := nI 8) dL_folds_114 (by decide) ?_
        refine ev_iload dL_folds_116 rfl ?_
        refine ev_imul dL_folds_118 ?_
        refine ev_top (pk_mul _ _) ?_
        refine ev_iload dL_folds_119 rfl ?_
        refine ev_iadd dL_folds_121 ?_
        refine ev_top (nI_add _ _) ?_
        refine ev_top (y := nI (ix_ false (c + k) y)) (congrArg nI (by unfold ix_; simp; omega)) ?_
        exact at122
    refine ev_iload dL_folds_57 rfl ?_
    refine ev_bipush (v := nI 8) dL_folds_59 (by decide) ?_
    refine ev_icmp_ge_f (tgt := 140) dL_folds_61 (by decide) (nI_ge hy8 (by decide)) ?_
    refine ev_iload dL_folds_64 rfl ?_
    refine ev_bipush (v := nI 8) dL_folds_66 (by decide) ?_
    refine ev_icmp_ge_f (tgt := 140) dL_folds_68 (by decide) (nI_ge hc (by decide)) ?_
    refine ev_iload dL_folds_71 rfl ?_
    refine ev_aload_n dL_folds_73 rfl ?_
    refine ev_iload_n dL_folds_74 rfl ?_
    cases b with
    | true =>
      refine ev_if_ne_f (tgt := 89) dL_folds_75 (by decide) rfl ?_
      refine ev_bipush (v := nI 8) dL_folds_78 (by decide) ?_
      refine ev_iload dL_folds_80 rfl ?_
      refine ev_imul dL_folds_82 ?_
      refine ev_top (pk_mul _ _) ?_
      refine ev_iload dL_folds_83 rfl ?_
      refine ev_iadd dL_folds_85 ?_
      refine ev_top (nI_add _ _) ?_
      refine ev_goto (tgt := 97) dL_folds_86 (by decide) ?_
      refine ev_top (y := nI (ix_ true (c - 1 - k) y)) (congrArg nI (by unfold ix_; simp; omega)) ?_
      exact at97
    | false =>
      refine ev_if_ne_t (tgt := 89) dL_folds_75 (by decide) (by decide) ?_
      refine ev_bipush (v := nI 8) dL_folds_89 (by decide) ?_
      refine ev_iload dL_folds_91 rfl ?_
      refine ev_imul dL_folds_93 ?_
      refine ev_top (pk_mul _ _) ?_
      refine ev_iload dL_folds_94 rfl ?_
      refine ev_iadd dL_folds_96 ?_
      refine ev_top (nI_add _ _) ?_
      refine ev_top (y := nI (ix_ false (c - 1 - k) y)) (congrArg nI (by unfold ix_; simp; omega)) ?_
      exact at97
theorem nx_dec {c k : Nat} (h : k < c) : nI (c - 1 - k) + Int32.ofInt (-1) = (if (k + 1) < c then nI (c - 1 - (k + 1)) else -1) := by
  by_cases e : k + 1 < c
  · rw [if_pos e, show c - 1 - k = (c - 1 - (k + 1)) + 1 by omega]
    exact nI_dec _
  · rw [if_neg e, show c - 1 - k = 0 by omega]
    decide
set_option maxRecDepth 8000 in
theorem gL_folds_b {G : GX} {bb : Nat} {w : WS} {T : va_W} {S : ST} {a : Nat} (hT : w.2 = T ++ [arI G a 64 (cE S)]) {b : Bool} {c : Nat} (h0 : 0 < c) (hc : c < 8) {v3 v4 : Option Value} {Z : ZT}
    (K : ∀ v8 v9 : Option Value, Ev G 22 bb mL_folds 146 [some (.ref 0), some (dy a), some (.int (bI (!b))), v3, v4, some (.int (nI (c))), some (.int (nI (lys S b c))), some (.int (-1)), v8, v9] [] w Z) :
    ∀ (n k : Nat) (v8 v9 : Option Value), k + n = c → Ev G 22 bb mL_folds 38 [some (.ref 0), some (dy a), some (.int (bI (!b))), v3, v4, some (.int (nI (c))), some (.int (nI (sm (lyk S b c) (min k (8 - c))))), some (.int (if k < c then nI (c - 1 - k) else -1)), v8, v9] [] w Z := by
  intro n
  induction n with
  | zero =>
    intro k v8 v9 hk
    obtain rfl : k = c := by omega
    rw [if_neg (Nat.lt_irrefl k)]
    refine ev_iload dL_folds_38 rfl ?_
    refine ev_if_lt_t (tgt := 146) dL_folds_40 (by decide) (by decide) ?_
    exact K v8 v9
  | succ n ih =>
    intro k v8 v9 hk
    have hkc : k < c := by omega
    rw [if_pos hkc]
    refine ev_iload dL_folds_38 rfl ?_
    refine ev_if_lt_f (tgt := 146) dL_folds_40 (by decide) (nI_pos (by omega)) ?_
    refine ev_iconst dL_folds_43 ic2 ?_
    refine ev_iload dL_folds_44 rfl ?_
    refine ev_imul dL_folds_46 ?_
    refine ev_top (pk_mul _ _) ?_
    refine ev_iconst dL_folds_47 ic1 ?_
    refine ev_isub dL_folds_48 ?_
    refine ev_top (pk_sub (by omega)) ?_
    refine ev_iload dL_folds_49 rfl ?_
    refine ev_isub dL_folds_51 ?_
    refine ev_top (y := nI (c + k)) ((pk_sub (by omega)).trans (congrArg nI (by omega))) ?_
    refine ev_ist8 dL_folds_52 (by decide) rfl ?_
    refine ev_iconst dL_folds_54 ic0 ?_
    refine ev_ist9 dL_folds_55 (by decide) rfl ?_
    have at140 : ∀ (X : Nat) (v9 : Option Value), X = sm (lyk S b c) (min (k + 1) (8 - c)) → Ev G 22 bb mL_folds 140 [some (.ref 0), some (dy a), some (.int (bI (!b))), v3, v4, some (.int (nI (c))), some (.int (nI (X))), some (.int (nI (c - 1 - k))), some (.int (nI (c + k))), v9] [] w Z := by
      intro X v9 hX
      subst hX
      refine ev_iinc7 dL_folds_140 (nx_dec hkc) (by decide) rfl ?_
      refine ev_goto (tgt := 38) dL_folds_143 (by decide) ?_
      exact ih (k + 1) _ _ (by omega)
    by_cases hf : c + k < 8
    · exact gL_folds_a hT hkc hf (L0 := sm (lyk S b c) (min k (8 - c))) (at140 _ _ (by rw [show min (k + 1) (8 - c) = min k (8 - c) + 1 by omega, sm_s, show min k (8 - c) = k by omega]; rfl)) 8 0 rfl
    · 
      refine ev_iload dL_folds_57 rfl ?_
      refine ev_bipush (v := nI 8) dL_folds_59 (by decide) ?_
      refine ev_icmp_ge_f (tgt := 140) dL_folds_61 (by decide) (by decide) ?_
      refine ev_iload dL_folds_64 rfl ?_
      refine ev_bipush (v := nI 8) dL_folds_66 (by decide) ?_
      refine ev_icmp_ge_t (tgt := 140) dL_folds_68 (by decide) (Int32.not_lt.mp (nI_nlt (by omega) (by omega))) ?_
      exact at140 _ _ (by rw [show min (k + 1) (8 - c) = min k (8 - c) by omega])
set_option maxRecDepth 8000 in
theorem gL_folds_c {G : GX} {bb : Nat} {T : va_W} {A : AS} {S : ST} (hS : aS A = S) {a : Nat} {b : Bool} {Z : ZT}
    (K : ∀ (w : WS) (v6 v7 v8 v9 : Option Value), aX A w → w.2 = T ++ [arI G a 64 (cE S)] → Ev G 22 bb mL_folds 217 [some (.ref 0), some (dy a), some (.int (bI (!b))), some (.int (nI (bs0 (lys S b) 7))), some (.int (nI (ls0 1000 (lys S b) 7))), some (.int (nI (7 + 1))), v6, v7, v8, v9] [] w Z) :
    ∀ (n i : Nat) (w : WS) (v6 v7 v8 v9 : Option Value), i + n = 7 → aX A w → w.2 = T ++ [arI G a 64 (cE S)] → Ev G 22 (2 * n + bb) mL_folds 22 [some (.ref 0), some (dy a), some (.int (bI (!b))), some (.int (nI (bs0 (lys S b) i))), some (.int (nI (ls0 1000 (lys S b) i))), some (.int (nI (i + 1))), v6, v7, v8, v9] [] w Z := by
  intro n
  induction n with
  | zero =>
    intro i w v6 v7 v8 v9 hi hX hT
    obtain rfl : i = 7 := by omega
    refine ev_iload dL_folds_22 rfl ?_
    refine ev_bipush (v := nI 8) dL_folds_24 (by decide) ?_
    refine ev_icmp_ge_t (tgt := 217) dL_folds_26 (by decide) (Int32.le_refl _) ?_
    exact ev_bu _ (by omega) (K w v6 v7 v8 v9 hX hT)
  | succ n ih =>
    intro i w v6 v7 v8 v9 hi hX hT
    have hi7 : i < 7 := by omega
    have hl32 := lys_l32 S b (i + 1)
    have hls : ls0 1000 (lys S b) i ≤ 1000 := by
      unfold ls0
      split
      · omega
      · have := lys_l32 S b (bst (lys S b) i)
        omega
    refine ev_iload dL_folds_22 rfl ?_
    refine ev_bipush (v := nI 8) dL_folds_24 (by decide) ?_
    refine ev_icmp_ge_f (tgt := 217) dL_folds_26 (by decide) (nI_ge (by omega) (by decide)) ?_
    refine ev_iconst dL_folds_29 ic0 ?_
    refine ev_ist6 dL_folds_30 (by decide) rfl ?_
    refine ev_iload dL_folds_32 rfl ?_
    refine ev_iconst dL_folds_34 ic1 ?_
    refine ev_isub dL_folds_35 ?_
    refine ev_top (y := if 0 < i + 1 then nI (i + 1 - 1 - 0) else -1) ((pk_sub (by omega)).trans (by rw [if_pos (by omega)]; rfl)) ?_
    refine ev_ist7 dL_folds_36 (by decide) rfl ?_
    refine gL_folds_b hT (by omega) (by omega) (fun v8 v9 => ?_) (i + 1) 0 v8 v9 (by omega)
    have at159 : ∀ x : Nat, x = bs0 (lys S b) (i + 1) → Ev G 22 (2 * (n + 1) + bb) mL_folds 159 [some (.ref 0), some (dy a), some (.int (bI (!b))), some (.int (nI (bs0 (lys S b) i))), some (.int (nI (ls0 1000 (lys S b) i))), some (.int (nI (i + 1))), some (.int (nI (lys S b (i + 1)))), some (.int (-1)), v8, v9] [.int (nI x)] w Z := by
      intro x hx
      subst hx
      refine ev_ist3 dL_folds_159 (by decide) rfl ?_
      refine ev_iload dL_folds_160 rfl ?_
      refine ev_iload dL_folds_162 rfl ?_
      refine ev_min aL_159 dL_folds_164 rfl ?_
      refine ev_top (y := nI (ls0 1000 (lys S b) (i + 1))) (by rw [mn_ (by omega) (by omega), ls0_s (show lys S b (i + 1) < 1000 from by have := lys_l32 S b (i + 1); omega)]) ?_
      refine ev_ist4 dL_folds_167 (by decide) rfl ?_
      refine ev_aload_n dL_folds_169 rfl ?_
      refine ev_iload_n dL_folds_170 rfl ?_
      have at179 : Ev G 22 (2 * (n + 1) + bb) mL_folds 179 [some (.ref 0), some (dy a), some (.int (bI (!b))), some (.int (nI (bs0 (lys S b) (i + 1)))), some (.int (nI (ls0 1000 (lys S b) (i + 1)))), some (.int (nI (i + 1))), some (.int (nI (lys S b (i + 1)))), some (.int (-1)), v8, v9] [.int (bI b), .ref 0] w Z := by
        refine ev_iload dL_folds_179 rfl ?_
        refine ev_q kL_267 (as := [.ref 0, .int (bI b), .int (nI (i + 1))]) (rest := []) (hL_lies hX (b) ((nI (i + 1)))) dL_folds_181 rfl (by decide) (by omega) rfl (fun w2 hX hT2 => ?_)
        rw [lc_li (by omega) (by omega), hS]
        replace hT := hT2.trans hT
        refine ev_iload dL_folds_184 rfl ?_
        refine ev_icmp_ne_f (tgt := 209) dL_folds_186 (by decide) rfl ?_
        refine ev_aload_n dL_folds_189 rfl ?_
        refine ev_iload_n dL_folds_190 rfl ?_
        have at199 : Ev G 22 (2 * (n + 1) - 1 + bb) mL_folds 199 [some (.ref 0), some (dy a), some (.int (bI (!b))), some (.int (nI (bs0 (lys S b) (i + 1)))), some (.int (nI (ls0 1000 (lys S b) (i + 1)))), some (.int (nI (i + 1))), some (.int (nI (lys S b (i + 1)))), some (.int (-1)), v8, v9] [.int (bI b), .ref 0] w2 Z := by
          refine ev_iload dL_folds_199 rfl ?_
          refine ev_q kL_270 (as := [.ref 0, .int (bI b), .int (nI (i + 1))]) (rest := []) (hL_liesAgain hX (b) ((nI (i + 1)))) dL_folds_201 rfl (by decide) (by omega) rfl (fun w2 hX hT2 => ?_)
          rw [lc_li (by omega) (by omega), hS]
          replace hT := hT2.trans hT
          refine ev_iload dL_folds_204 rfl ?_
          refine ev_icmp_eq_t (tgt := 211) dL_folds_206 (by decide) rfl ?_
          refine ev_iinc5 dL_folds_211 (nI_inc _) (by decide) rfl ?_
          refine ev_goto (tgt := 22) dL_folds_214 (by decide) ?_
          exact ev_bu _ (by omega) (ih (i + 1) _ _ _ _ _ (by omega) hX hT)
        cases b with
        | true =>
          refine ev_if_ne_f (tgt := 198) dL_folds_191 (by decide) rfl ?_
          refine ev_iconst dL_folds_194 ic1 ?_
          refine ev_goto (tgt := 199) dL_folds_195 (by decide) ?_
          exact ev_bu _ (by omega) at199
        | false =>
          refine ev_if_ne_t (tgt := 198) dL_folds_191 (by decide) (by decide) ?_
          refine ev_iconst dL_folds_198 ic0 ?_
          exact ev_bu _ (by omega) at199
      cases b with
      | true =>
        refine ev_if_ne_f (tgt := 178) dL_folds_171 (by decide) rfl ?_
        refine ev_iconst dL_folds_174 ic1 ?_
        refine ev_goto (tgt := 179) dL_folds_175 (by decide) ?_
        exact at179
      | false =>
        refine ev_if_ne_t (tgt := 178) dL_folds_171 (by decide) (by decide) ?_
        refine ev_iconst dL_folds_178 ic0 ?_
        exact at179
    refine ev_iload dL_folds_146 rfl ?_
    refine ev_iload dL_folds_148 rfl ?_
    by_cases h : lys S b (i + 1) < ls0 1000 (lys S b) i
    · refine ev_icmp_ge_f (tgt := 158) dL_folds_150 (by decide) (nI_ge h (by omega)) ?_
      refine ev_iload dL_folds_153 rfl ?_
      refine ev_goto (tgt := 159) dL_folds_155 (by decide) ?_
      exact at159 _ (by rw [bs0_s (show lys S b (i + 1) < 1000 from by have := lys_l32 S b (i + 1); omega), if_pos h])
    · refine ev_icmp_ge_t (tgt := 158) dL_folds_150 (by decide) (Int32.not_lt.mp (nI_nlt (by omega) (by omega))) ?_
      refine ev_iload_n dL_folds_158 rfl ?_
      exact at159 _ (by rw [bs0_s (show lys S b (i + 1) < 1000 from by have := lys_l32 S b (i + 1); omega), if_neg h])
set_option maxRecDepth 8000 in
theorem gL_folds_d {G : GX} {bb : Nat} {T : va_W} {A : AS} {S : ST} (hS : aS A = S) {a : Nat} {b : Bool} {Z : ZT}
    (K : ∀ (w : WS) (v3 v4 v5 v6 v7 v8 v9 : Option Value), aX A w → w.2 = T ++ [arI G a 64 (cE S)] → Ev G 22 bb mL_folds 236 [some (.ref 0), some (dy a), some (.int (bI (!b))), v3, v4, v5, v6, v7, v8, v9] [] w Z)
    (w : WS) (v3 v4 v5 v6 v7 v8 v9 : Option Value) (hX : aX A w) (hT : w.2 = T ++ [arI G a 64 (cE S)]) : Ev G 22 (20 + bb) mL_folds 7 [some (.ref 0), some (dy a), some (.int (bI (!b))), v3, v4, v5, v6, v7, v8, v9] [] w Z := by
  refine ev_iload_n dL_folds_7 rfl ?_
  refine ev_iconst dL_folds_8 ic2 ?_
  refine ev_icmp_ge_f (tgt := 242) dL_folds_9 (by decide) (by cases b <;> decide) ?_
  refine ev_iconst dL_folds_12 ic0 ?_
  refine ev_ist3 dL_folds_13 (by decide) rfl ?_
  refine ev_sipush (v := nI 1000) dL_folds_14 (by decide) ?_
  refine ev_ist4 dL_folds_17 (by decide) rfl ?_
  refine ev_iconst dL_folds_19 ic1 ?_
  refine ev_ist5 dL_folds_20 (by decide) rfl ?_
  refine ev_bu (2 * 7 + (1 + bb)) (by omega) (gL_folds_c hS (fun w v6 v7 v8 v9 hX hT => ?_) 7 0 w _ _ _ _ rfl hX hT)
  refine ev_aload_n dL_folds_217 rfl ?_
  refine ev_iload_n dL_folds_218 rfl ?_
  have at227 : Ev G 22 (1 + bb) mL_folds 227 [some (.ref 0), some (dy a), some (.int (bI (!b))), some (.int (nI (bs0 (lys S b) 7))), some (.int (nI (ls0 1000 (lys S b) 7))), some (.int (nI (7 + 1))), v6, v7, v8, v9] [.int (bI b), .ref 0] w Z := by
    refine ev_callV kL_272 co0 (as := [.int (bI b)]) (rest := []) (qX11_bestFold_y (b := b) hX.1) dL_folds_227 rfl (by decide) (by omega) rfl ?_
    refine ev_iload_n dL_folds_230 rfl ?_
    refine ev_icmp_eq_t (tgt := 236) dL_folds_231 (by decide) (by rw [hS, bs0_p (n := 6)]) ?_
    exact ev_bu _ (by omega) (K w _ _ _ _ _ _ _ hX hT)
  cases b with
  | true =>
    refine ev_if_ne_f (tgt := 226) dL_folds_219 (by decide) rfl ?_
    refine ev_iconst dL_folds_222 ic1 ?_
    refine ev_goto (tgt := 227) dL_folds_223 (by decide) ?_
    exact at227
  | false =>
    refine ev_if_ne_t (tgt := 226) dL_folds_219 (by decide) (by decide) ?_
    refine ev_iconst dL_folds_226 ic0 ?_
    exact at227
set_option maxRecDepth 8000 in
theorem gL_folds {G : GX} {w : WS} {A : AS} (hX : aX A w) : BigP G 22 250 mL_folds [.ref 0] w (fun r w2 => r = some (.int (nI 1)) ∧ aX A w2 ∧ w2.2 = w.2) := by
  refine bp_of (by decide +kernel) rfl (Nat.le_of_ble_eq_true rfl) ?_
  show Ev G 22 250 mL_folds 0 [some (.ref 0), none, none, none, none, none, none, none, none, none] [] w _
  refine ev_aload_n dL_folds_0 rfl ?_
  refine ev_callSP kL_227 (as := [.ref 0]) (rest := []) (gL_cells hX) dL_folds_1 rfl (by decide) (by decide) rfl (fun r0 w1 hp => ?_)
  obtain ⟨a, rfl, hX, hT⟩ := hp
  refine ev_ast1 dL_folds_4 (by decide) rfl ?_
  refine ev_iconst dL_folds_5 ic0 ?_
  refine ev_ist2 dL_folds_6 (by decide) rfl ?_
  refine ev_bu (20 + 50) (by decide) (gL_folds_d (b := true) (S := aS A) rfl (fun w1 v3 v4 v5 v6 v7 v8 v9 hX hT => ?_) w1 _ _ _ _ _ _ _ hX hT)
  refine ev_iinc2 dL_folds_236 (v := 1) rfl (by decide) rfl ?_
  refine ev_goto (tgt := 7) dL_folds_239 (by decide) ?_
  refine ev_bu (20 + 30) (by decide) (gL_folds_d (b := false) (S := aS A) rfl (fun w1 v3 v4 v5 v6 v7 v8 v9 hX hT => ?_) w1 _ _ _ _ _ _ _ hX hT)
  refine ev_iinc2 dL_folds_236 (v := 2) rfl (by decide) rfl ?_
  refine ev_goto (tgt := 7) dL_folds_239 (by decide) ?_
  refine ev_iload_n dL_folds_7 rfl ?_
  refine ev_iconst dL_folds_8 ic2 ?_
  refine ev_icmp_ge_t (tgt := 242) dL_folds_9 (by decide) (by decide) ?_
  refine ev_aload_n dL_folds_242 rfl ?_
  refine ev_iconst dL_folds_243 ic1 ?_
  refine ev_iconst dL_folds_244 ic0 ?_
  refine ev_q kL_267 (as := [.ref 0, .int (bI true), .int (nI 0)]) (rest := []) (hL_lies hX (true) ((nI 0))) dL_folds_245 rfl (by decide) (by omega) rfl (fun w2 hX hT2 => ?_)
  rw [lc_li0]
  replace hT := hT2.trans hT
  refine ev_bipush (v := (-12)) dL_folds_248 (by decide) ?_
  refine ev_icmp_ne_f (tgt := 281) dL_folds_250 (by decide) rfl ?_
  refine ev_aload_n dL_folds_253 rfl ?_
  refine ev_iconst dL_folds_254 ic0 ?_
  refine ev_bipush (v := nI 8) dL_folds_255 (by decide) ?_
  refine ev_q kL_267 (as := [.ref 0, .int (bI false), .int (nI 8)]) (rest := []) (hL_lies hX (false) ((nI 8))) dL_folds_257 rfl (by decide) (by omega) rfl (fun w2 hX hT2 => ?_)
  rw [lc_li8]
  replace hT := hT2.trans hT
  refine ev_bipush (v := (-12)) dL_folds_260 (by decide) ?_
  refine ev_icmp_ne_f (tgt := 281) dL_folds_262 (by decide) rfl ?_
  refine ev_aload_n dL_folds_265 rfl ?_
  refine ev_iconst dL_folds_266 ic1 ?_
  refine ev_bipush (v := nI 8) dL_folds_267 (by decide) ?_
  refine ev_q kL_270 (as := [.ref 0, .int (bI true), .int (nI 8)]) (rest := []) (hL_liesAgain hX (true) ((nI 8))) dL_folds_269 rfl (by decide) (by omega) rfl (fun w2 hX hT2 => ?_)
  rw [lc_li8]
  replace hT := hT2.trans hT
  refine ev_bipush (v := (-12)) dL_folds_272 (by decide) ?_
  refine ev_icmp_ne_f (tgt := 281) dL_folds_274 (by decide) rfl ?_
  refine ev_iconst dL_folds_277 ic1 ?_
  refine ev_goto (tgt := 282) dL_folds_278 (by decide) ?_
  refine ev_tl (T' := w.2) (by rw [hT]; exact List.sublist_append_left _ _) ?_
  exact ev_iretP dL_folds_282 rfl (by decide) ⟨rfl, aX_of rfl hX, rfl⟩
