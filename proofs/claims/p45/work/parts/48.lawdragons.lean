/-! the law's judgement of the dragons -/
/-- what coins a realm has left when it has paid the first n dragons -/
def cI (S : ST) (r : Nat) : Nat → Int32
  | 0 => nI 100
  | n + 1 => if dQ S n = r then cI S r n - nI (dP S n) else cI S r n
/-- a map that was drawn and no more -/
def dwS (S : ST) : Prop := (∀ k, k < nD S → sO S (dC S k) = nI (dQ S k)) ∧ (∀ r, r < 4 → sC S r = cI S r (nD S) ∧ sW S r = nI 0 ∧ sL S r = nI 0) ∧ sM S 2 = nI 0 ∧ sM S 3 = nI 0 ∧ sM S 4 = nI 0
def dqN (S : ST) (r n : Nat) : Nat := ct (fun k => dQ S k == r) n
theorem dq_of {S : ST} (h : dwS S) (ho : okS S) {r : Nat} (hr : r < 4) : dOf S (nI r) = dqN S r (nD S) := by
  unfold dOf dqN
  refine ct_congr (fun k hk => ?_)
  have h4 := (ho.2.2.1.2.1 k hk).2.2.2
  rw [h.1 k hk]
  apply Bool.eq_iff_iff.mpr
  rw [beq_iff_eq, beq_iff_eq, nI_eq (by omega) (by omega)]
set_option maxRecDepth 8000 in
theorem gL_dragons_a {G : GX} {A : AS} {S : ST} {bb : Nat} (hS : aS A = S) (ho : okS S) {z y k : Nat} (hk : k < nD S) {T2 : va_W} {v6 : Int32} {Z : ZT}
    (K : ∀ (w : WS), aX A w → w.2 = T2 → Ev G 22 bb mL_dragons 91 [some (.ref 0), some (.int (nI (nD S))), some (dy z), some (dy y), some (.int (nI (k))), some (.int (nI (dC S k))), some (.int v6), some (.int (nI (k)))] [] w Z) :
    ∀ (n j : Nat) (w : WS), j + n = k → aX A w → w.2 = T2 → Ev G 22 (n + bb) mL_dragons 64 [some (.ref 0), some (.int (nI (nD S))), some (dy z), some (dy y), some (.int (nI (k))), some (.int (nI (dC S k))), some (.int v6), some (.int (nI (j)))] [] w Z := by
  have hn5 := ho.2.2.1.1
  intro n
  induction n with
  | zero =>
    intro j w hj hX hT
    obtain rfl : j = k := by omega
    refine ev_iload dL_dragons_64 rfl ?_
    refine ev_iload dL_dragons_66 rfl ?_
    refine ev_icmp_ge_t (tgt := 91) dL_dragons_68 (by decide) (Int32.le_refl _) ?_
    exact ev_bu _ (by omega) (K w hX hT)
  | succ n ih =>
    intro j w hj hX hT
    have hjk : j < k := by omega
    have hjn : j < nD S := by omega
    have c1 := (ho.2.2.1.2.1 j hjn).1
    have c2 := (ho.2.2.1.2.1 k hk).1
    refine ev_iload dL_dragons_64 rfl ?_
    refine ev_iload dL_dragons_66 rfl ?_
    refine ev_icmp_ge_f (tgt := 91) dL_dragons_68 (by decide) (nI_ge hjk (by omega)) ?_
    refine ev_aload_n dL_dragons_71 rfl ?_
    refine ev_iload dL_dragons_72 rfl ?_
    refine ev_iconst dL_dragons_74 ic0 ?_
    refine ev_q kL_298 (as := [.ref 0, .int (nI j), .int (nI 0)]) (rest := []) (hL_dragonOf hX ((nI j)) ((nI 0))) dL_dragons_75 rfl (by decide) (by omega) rfl (fun w2 hX hT2 => ?_)
    rw [hS, lc_dr ho hjn (by decide), show drV S j 0 = nI (dC S j) from rfl]
    replace hT := hT2.trans hT
    refine ev_iload dL_dragons_78 rfl ?_
    refine ev_icmp_ne_t (tgt := 85) dL_dragons_80 (by decide) (fun q => by have := ho.2.2.1.2.2 j k hjn hk ((nI_eq (by omega) (by omega)).mp q); omega) ?_
    refine ev_iinc7 dL_dragons_85 (nI_inc _) (by decide) rfl ?_
    refine ev_goto (tgt := 64) dL_dragons_88 (by decide) ?_
    exact ev_bu _ (by omega) (ih (j + 1) w2 (by omega) hX hT)
set_option maxRecDepth 8000 in
theorem gL_dragons_b {G : GX} {T : va_W} {A : AS} {S : ST} {bb : Nat} (hS : aS A = S) (ho : okS S) (hd : dwS S) {z y : Nat} {Z : ZT}
    (K : ∀ (w : WS) (g h : Nat → Int32) (v5 v6 v7 : Option Value), aX A w → w.2 = T ++ [arI G z 4 g, arI G y 4 h] → (∀ r, r < 4 → g r = nI (dqN S r (nD S)) ∧ h r = cI S r (nD S)) → Ev G 22 bb mL_dragons 160 [some (.ref 0), some (.int (nI (nD S))), some (dy z), some (dy y), some (.int (nI (nD S))), v5, v6, v7] [] w Z) :
    ∀ (n k : Nat) (w : WS) (g h : Nat → Int32) (v5 v6 v7 : Option Value), k + n = nD S → aX A w → w.2 = T ++ [arI G z 4 g, arI G y 4 h] → (∀ r, r < 4 → g r = nI (dqN S r k) ∧ h r = cI S r k) → Ev G 22 (20 * n + bb) mL_dragons 37 [some (.ref 0), some (.int (nI (nD S))), some (dy z), some (dy y), some (.int (nI (k))), v5, v6, v7] [] w Z := by
  have hn5 := ho.2.2.1.1
  intro n
  induction n with
  | zero =>
    intro k w g h v5 v6 v7 hk hX hT hg
    obtain rfl : k = nD S := by omega
    refine ev_iload dL_dragons_37 rfl ?_
    refine ev_iload_n dL_dragons_39 rfl ?_
    refine ev_icmp_ge_t (tgt := 160) dL_dragons_40 (by decide) (Int32.le_refl _) ?_
    exact ev_bu _ (by omega) (K w g h _ _ _ hX hT hg)
  | succ n ih =>
    intro k w g h v5 v6 v7 hkn hX hT hg
    have hk : k < nD S := by omega
    obtain ⟨c64, p1, p50, q4⟩ := ho.2.2.1.2.1 k hk
    refine ev_iload dL_dragons_37 rfl ?_
    refine ev_iload_n dL_dragons_39 rfl ?_
    refine ev_icmp_ge_f (tgt := 160) dL_dragons_40 (by decide) (nI_ge hk (by omega)) ?_
    refine ev_aload_n dL_dragons_43 rfl ?_
    refine ev_iload dL_dragons_44 rfl ?_
    refine ev_iconst dL_dragons_46 ic0 ?_
    refine ev_q kL_298 (as := [.ref 0, .int (nI k), .int (nI 0)]) (rest := []) (hL_dragonOf hX ((nI k)) ((nI 0))) dL_dragons_47 rfl (by decide) (by omega) rfl (fun w2 hX hT2 => ?_)
    rw [hS, lc_dr ho hk (by decide), show drV S k 0 = nI (dC S k) from rfl]
    replace hT := hT2.trans hT
    refine ev_ist5 dL_dragons_50 (by decide) rfl ?_
    refine ev_aload_n dL_dragons_52 rfl ?_
    refine ev_iload dL_dragons_53 rfl ?_
    refine ev_iconst dL_dragons_55 ic2 ?_
    refine ev_q kL_298 (as := [.ref 0, .int (nI k), .int (nI 2)]) (rest := []) (hL_dragonOf hX ((nI k)) ((nI 2))) dL_dragons_56 rfl (by decide) (by omega) rfl (fun w2 hX hT2 => ?_)
    rw [hS, lc_dr ho hk (by decide), show drV S k 2 = nI (dQ S k) from rfl]
    replace hT := hT2.trans hT
    refine ev_ist6 dL_dragons_59 (by decide) rfl ?_
    refine ev_iconst dL_dragons_61 ic0 ?_
    refine ev_ist7 dL_dragons_62 (by decide) rfl ?_
    refine ev_bu (k + (20 * n + 8 + bb)) (by omega) (gL_dragons_a hS ho hk (fun w hX hT => ?_) k 0 w2 (by omega) hX hT)
    refine ev_aload_n dL_dragons_91 rfl ?_
    refine ev_iload dL_dragons_92 rfl ?_
    refine ev_q kL_195 (as := [.ref 0, .int (nI (dC S k))]) (rest := []) (hL_realmAt hX ((nI (dC S k)))) dL_dragons_94 rfl (by decide) (by omega) rfl (fun w2 hX hT2 => ?_)
    rw [hS, lc_at c64]
    replace hT := hT2.trans hT
    refine ev_iload dL_dragons_97 rfl ?_
    refine ev_icmp_ne_f (tgt := 130) dL_dragons_99 (by decide) (hd.1 k hk) ?_
    refine ev_iload dL_dragons_102 rfl ?_
    refine ev_if_lt_f (tgt := 130) dL_dragons_104 (by decide) (nI_pos (by omega)) ?_
    refine ev_aload_n dL_dragons_107 rfl ?_
    refine ev_iload dL_dragons_108 rfl ?_
    refine ev_iconst dL_dragons_110 ic1 ?_
    refine ev_q kL_298 (as := [.ref 0, .int (nI k), .int (nI 1)]) (rest := []) (hL_dragonOf hX ((nI k)) ((nI 1))) dL_dragons_111 rfl (by decide) (by omega) rfl (fun w2 hX hT2 => ?_)
    rw [hS, lc_dr ho hk (by decide), show drV S k 1 = nI (dP S k) from rfl]
    replace hT := hT2.trans hT
    refine ev_iconst dL_dragons_114 ic1 ?_
    refine ev_icmp_lt_f (tgt := 130) dL_dragons_115 (by decide) (by show ¬ nI (dP S k) < nI 1; exact nI_nlt p1 (by omega)) ?_
    refine ev_aload_n dL_dragons_118 rfl ?_
    refine ev_iload dL_dragons_119 rfl ?_
    refine ev_iconst dL_dragons_121 ic3 ?_
    refine ev_q kL_298 (as := [.ref 0, .int (nI k), .int (nI 3)]) (rest := []) (hL_dragonOf hX ((nI k)) ((nI 3))) dL_dragons_122 rfl (by decide) (by omega) rfl (fun w2 hX hT2 => ?_)
    rw [hS, lc_dr3 ho hk]
    replace hT := hT2.trans hT
    refine ev_bipush (v := (-12)) dL_dragons_125 (by decide) ?_
    refine ev_icmp_eq_t (tgt := 132) dL_dragons_127 (by decide) rfl ?_
    refine ev_aload_n dL_dragons_132 rfl ?_
    refine ev_iload dL_dragons_133 rfl ?_
    refine ev_dup2 dL_dragons_135 rfl rfl ?_
    refine ev_ialoadT (w := w2) (t := 0) (i := T.length) (f := g) (by rw [hT]; exact tl0) dL_dragons_136 rfl q4 (by decide) ?_
    refine ev_top (hg _ q4).1 ?_
    refine ev_iconst dL_dragons_137 ic1 ?_
    refine ev_iadd dL_dragons_138 ?_
    refine ev_top (nI_add _ 1) ?_
    refine ev_iastoreT (w := w2) (i := T.length) (f := g) (T2 := T ++ [arI G z 4 (upd g (dQ S k) (nI (dqN S (dQ S k) k + 1))), arI G y 4 h]) (by rw [hT]; exact tl0) dL_dragons_139 rfl q4 (by decide) (by rw [hT]; exact ts0) ?_
    replace hX : aX A (w2.1, T ++ [arI G z 4 (upd g (dQ S k) (nI (dqN S (dQ S k) k + 1))), arI G y 4 h]) := aX_of rfl hX
    replace hT : (w2.1, T ++ [arI G z 4 (upd g (dQ S k) (nI (dqN S (dQ S k) k + 1))), arI G y 4 h]).2 = T ++ [arI G z 4 (upd g (dQ S k) (nI (dqN S (dQ S k) k + 1))), arI G y 4 h] := rfl
    refine ev_aload_n dL_dragons_140 rfl ?_
    refine ev_iload dL_dragons_141 rfl ?_
    refine ev_dup2 dL_dragons_143 rfl rfl ?_
    refine ev_ialoadT (t := 0) (i := T.length + 1) (f := h) tl1 dL_dragons_144 rfl q4 (by decide) ?_
    refine ev_top (hg _ q4).2 ?_
    refine ev_aload_n dL_dragons_145 rfl ?_
    refine ev_iload dL_dragons_146 rfl ?_
    refine ev_iconst dL_dragons_148 ic1 ?_
    refine ev_q kL_298 (as := [.ref 0, .int (nI k), .int (nI 1)]) (rest := [.int (cI S (dQ S k) k), .int (nI (dQ S k)), dy y]) (hL_dragonOf hX ((nI k)) ((nI 1))) dL_dragons_149 rfl (by decide) (by omega) rfl (fun w2 hX hT2 => ?_)
    rw [hS, lc_dr ho hk (by decide), show drV S k 1 = nI (dP S k) from rfl]
    replace hT := hT2.trans hT
    refine ev_isub dL_dragons_152 ?_
    refine ev_iastoreT (i := T.length + 1) (f := h) (T2 := T ++ [arI G z 4 (upd g (dQ S k) (nI (dqN S (dQ S k) k + 1))), arI G y 4 (upd h (dQ S k) (cI S (dQ S k) k - nI (dP S k)))]) (by rw [hT]; exact tl1) dL_dragons_153 rfl q4 (by decide) (by rw [hT]; exact ts1) ?_
    refine ev_iinc4 dL_dragons_154 (nI_inc _) (by decide) rfl ?_
    refine ev_goto (tgt := 37) dL_dragons_157 (by decide) ?_
    refine ev_bu _ (by omega) (ih (k + 1) _ (upd g (dQ S k) (nI (dqN S (dQ S k) k + 1))) (upd h (dQ S k) (cI S (dQ S k) k - nI (dP S k))) _ _ _ (by omega) (aX_of rfl hX) rfl (fun r hr => ?_))
    by_cases e : r = dQ S k
    · subst e
      rw [upd_s, upd_s]
      refine ⟨congrArg nI ?_, ?_⟩
      · unfold dqN
        rw [ct_t (by simp)]
      · show _ = if dQ S k = dQ S k then _ else _
        rw [if_pos rfl]
    · rw [upd_n e, upd_n e, (hg r hr).1, (hg r hr).2]
      refine ⟨congrArg nI ?_, ?_⟩
      · unfold dqN
        rw [ct_f (p := fun k => dQ S k == r) (n := k) (beq_eq_false_iff_ne.mpr (fun q => e (Eq.symm q)))]
      · show _ = if dQ S k = r then _ else _
        rw [if_neg (fun q => e q.symm)]
set_option maxRecDepth 8000 in
theorem gL_dragons_c {G : GX} {T : va_W} {A : AS} {S : ST} {bb : Nat} (hS : aS A = S) (hd : dwS S) {z y : Nat} {g h : Nat → Int32} (hg : (∀ r, r < 4 → g r = nI (dOf S (nI r)) ∧ h r = sC S r)) {v6 v7 : Option Value} {Z : ZT}
    (K : ∀ (w : WS), aX A w → w.2 = T ++ [arI G z 4 g, arI G y 4 h] → Ev G 22 bb mL_dragons 237 [some (.ref 0), some (.int (nI (nD S))), some (dy z), some (dy y), some (.int (al_S S 4)), some (.int (nI (4))), v6, v7] [] w Z) :
    ∀ (n r : Nat) (w : WS), r + n = 4 → aX A w → w.2 = T ++ [arI G z 4 g, arI G y 4 h] → Ev G 22 (4 * n + bb) mL_dragons 166 [some (.ref 0), some (.int (nI (nD S))), some (dy z), some (dy y), some (.int (al_S S r)), some (.int (nI (r))), v6, v7] [] w Z := by
  intro n
  induction n with
  | zero =>
    intro r w hr hX hT
    obtain rfl : r = 4 := by omega
    refine ev_iload dL_dragons_166 rfl ?_
    refine ev_iconst dL_dragons_168 ic4 ?_
    refine ev_icmp_ge_t (tgt := 237) dL_dragons_169 (by decide) (Int32.le_refl _) ?_
    exact ev_bu _ (by omega) (K w hX hT)
  | succ n ih =>
    intro r w hrn hX hT
    have hr : r < 4 := by omega
    refine ev_iload dL_dragons_166 rfl ?_
    refine ev_iconst dL_dragons_168 ic4 ?_
    refine ev_icmp_ge_f (tgt := 237) dL_dragons_169 (by decide) (nI_ge hr (by decide)) ?_
    refine ev_iload dL_dragons_172 rfl ?_
    refine ev_aload_n dL_dragons_174 rfl ?_
    refine ev_iload dL_dragons_175 rfl ?_
    refine ev_ialoadT (w := w) (t := 0) (i := T.length + 1) (f := h) (by rw [hT]; exact tl1) dL_dragons_177 rfl hr (by decide) ?_
    refine ev_top (hg r hr).2 ?_
    refine ev_iadd dL_dragons_178 ?_
    refine ev_ist4 dL_dragons_179 (by decide) rfl ?_
    refine ev_aload_n dL_dragons_181 rfl ?_
    refine ev_iload dL_dragons_182 rfl ?_
    refine ev_iconst dL_dragons_184 ic1 ?_
    refine ev_q kL_237 (as := [.ref 0, .int (nI r), .int (nI 1)]) (rest := []) (hL_realmOf hX ((nI r)) ((nI 1))) dL_dragons_185 rfl (by decide) (by omega) rfl (fun w2 hX hT2 => ?_)
    rw [hS, lc_ro hr (by decide), show roV S r 1 = sC S r from rfl]
    replace hT := hT2.trans hT
    refine ev_aload_n dL_dragons_188 rfl ?_
    refine ev_iload dL_dragons_189 rfl ?_
    refine ev_ialoadT (w := w2) (t := 0) (i := T.length + 1) (f := h) (by rw [hT]; exact tl1) dL_dragons_191 rfl hr (by decide) ?_
    refine ev_top (hg r hr).2 ?_
    refine ev_icmp_ne_f (tgt := 229) dL_dragons_192 (by decide) rfl ?_
    refine ev_aload_n dL_dragons_195 rfl ?_
    refine ev_iload dL_dragons_196 rfl ?_
    refine ev_iconst dL_dragons_198 ic2 ?_
    refine ev_q kL_237 (as := [.ref 0, .int (nI r), .int (nI 2)]) (rest := []) (hL_realmOf hX ((nI r)) ((nI 2))) dL_dragons_199 rfl (by decide) (by omega) rfl (fun w2 hX hT2 => ?_)
    rw [hS, lc_ro hr (by decide), show roV S r 2 = nI (dOf S (nI r)) from rfl]
    replace hT := hT2.trans hT
    refine ev_aload_n dL_dragons_202 rfl ?_
    refine ev_iload dL_dragons_203 rfl ?_
    refine ev_ialoadT (w := w2) (t := 0) (i := T.length) (f := g) (by rw [hT]; exact tl0) dL_dragons_205 rfl hr (by decide) ?_
    refine ev_top (hg r hr).1 ?_
    refine ev_icmp_ne_f (tgt := 229) dL_dragons_206 (by decide) rfl ?_
    refine ev_aload_n dL_dragons_209 rfl ?_
    refine ev_iload dL_dragons_210 rfl ?_
    refine ev_iconst dL_dragons_212 ic3 ?_
    refine ev_q kL_237 (as := [.ref 0, .int (nI r), .int (nI 3)]) (rest := []) (hL_realmOf hX ((nI r)) ((nI 3))) dL_dragons_213 rfl (by decide) (by omega) rfl (fun w2 hX hT2 => ?_)
    rw [hS, lc_ro hr (by decide), show roV S r 3 = sW S r from rfl]
    replace hT := hT2.trans hT
    refine ev_if_ne_f (tgt := 229) dL_dragons_216 (by decide) ((hd.2.1 r hr).2.1.trans rfl) ?_
    refine ev_aload_n dL_dragons_219 rfl ?_
    refine ev_iload dL_dragons_220 rfl ?_
    refine ev_iconst dL_dragons_222 ic4 ?_
    refine ev_q kL_237 (as := [.ref 0, .int (nI r), .int (nI 4)]) (rest := []) (hL_realmOf hX ((nI r)) ((nI 4))) dL_dragons_223 rfl (by decide) (by omega) rfl (fun w2 hX hT2 => ?_)
    rw [hS, lc_ro hr (by decide), show roV S r 4 = sL S r from rfl]
    replace hT := hT2.trans hT
    refine ev_if_eq_t (tgt := 231) dL_dragons_226 (by decide) ((hd.2.1 r hr).2.2.trans rfl) ?_
    refine ev_iinc5 dL_dragons_231 (nI_inc _) (by decide) rfl ?_
    refine ev_goto (tgt := 166) dL_dragons_234 (by decide) ?_
    exact ev_bu _ (by omega) (ih (r + 1) _ (by omega) hX hT)
set_option maxRecDepth 8000 in
theorem gL_dragons {G : GX} {w : WS} {A : AS} (hX : aX A w) (hd : dwS (aS A)) : BigP G 22 300 mL_dragons [.ref 0] w (fun r w2 => r = some (.int (nI 1)) ∧ aX A w2 ∧ w2.2 = w.2) := by
  refine bp_of (by decide +kernel) rfl (Nat.le_of_ble_eq_true rfl) ?_
  show Ev G 22 300 mL_dragons 0 [some (.ref 0), none, none, none, none, none, none, none] [] w _
  have ho := hX.1.2
  have hn5 := ho.2.2.1.1
  have hT : w.2 = w.2 := rfl
  refine ev_aload_n dL_dragons_0 rfl ?_
  refine ev_iconst dL_dragons_1 ic2 ?_
  refine ev_qc kL_255 co0 (as := [.int (nI 2)]) (rest := []) (fX11_account_y (G := G) hX (i := 2) (by omega)) dL_dragons_2 rfl (by decide) (by omega) rfl (fun w2 hX hT2 => ?_)
  rw [show acV A 2 = nI (nD (aS A)) from rfl]
  replace hT := hT2.trans hT
  refine ev_ist1 dL_dragons_5 (by decide) rfl ?_
  refine ev_iconst dL_dragons_6 ic4 ?_
  refine ev_newaT (at_ := .int) (t := 0) (zz := .inl (fun _ => 0)) ac_i rfl rfl ra_i (fun _ => rfl) (by decide) (by decide) (by decide) dL_dragons_7 (fun z => ?_)
  refine ev_ast2 dL_dragons_9 (by decide) rfl ?_
  refine ev_iconst dL_dragons_10 ic4 ?_
  refine ev_newaT (at_ := .int) (t := 0) (zz := .inl (fun _ => 0)) ac_i rfl rfl ra_i (fun _ => rfl) (by decide) (by decide) (by decide) dL_dragons_11 (fun y => ?_)
  refine ev_w (w' := (w2.1, w.2 ++ [arI G z 4 (fun _ => 0), arI G y 4 (fun _ => 0)])) (by rw [hT]; simp [arI]) ?_
  refine ev_dup dL_dragons_13 rfl ?_
  refine ev_iconst dL_dragons_14 ic0 ?_
  refine ev_bipush (v := nI 100) dL_dragons_15 (by decide) ?_
  refine ev_iastoreT (w := (w2.1, w.2 ++ [arI G z 4 (fun _ => 0), arI G y 4 (fun _ => 0)])) (i := w.2.length + 1) (f := (fun _ => 0)) (j := 0) (T2 := w.2 ++ [arI G z 4 (fun _ => 0), arI G y 4 (upd (fun _ => 0) 0 (nI 100))]) tl1 dL_dragons_17 rfl (by decide) (by decide) ts1 ?_
  refine ev_dup dL_dragons_18 rfl ?_
  refine ev_iconst dL_dragons_19 ic1 ?_
  refine ev_bipush (v := nI 100) dL_dragons_20 (by decide) ?_
  refine ev_iastoreT (w := (w2.1, w.2 ++ [arI G z 4 (fun _ => 0), arI G y 4 (upd (fun _ => 0) 0 (nI 100))])) (i := w.2.length + 1) (f := (upd (fun _ => 0) 0 (nI 100))) (j := 1) (T2 := w.2 ++ [arI G z 4 (fun _ => 0), arI G y 4 (upd (upd (fun _ => 0) 0 (nI 100)) 1 (nI 100))]) tl1 dL_dragons_22 rfl (by decide) (by decide) ts1 ?_
  refine ev_dup dL_dragons_23 rfl ?_
  refine ev_iconst dL_dragons_24 ic2 ?_
  refine ev_bipush (v := nI 100) dL_dragons_25 (by decide) ?_
  refine ev_iastoreT (w := (w2.1, w.2 ++ [arI G z 4 (fun _ => 0), arI G y 4 (upd (upd (fun _ => 0) 0 (nI 100)) 1 (nI 100))])) (i := w.2.length + 1) (f := (upd (upd (fun _ => 0) 0 (nI 100)) 1 (nI 100))) (j := 2) (T2 := w.2 ++ [arI G z 4 (fun _ => 0), arI G y 4 (upd (upd (upd (fun _ => 0) 0 (nI 100)) 1 (nI 100)) 2 (nI 100))]) tl1 dL_dragons_27 rfl (by decide) (by decide) ts1 ?_
  refine ev_dup dL_dragons_28 rfl ?_
  refine ev_iconst dL_dragons_29 ic3 ?_
  refine ev_bipush (v := nI 100) dL_dragons_30 (by decide) ?_
  refine ev_iastoreT (w := (w2.1, w.2 ++ [arI G z 4 (fun _ => 0), arI G y 4 (upd (upd (upd (fun _ => 0) 0 (nI 100)) 1 (nI 100)) 2 (nI 100))])) (i := w.2.length + 1) (f := (upd (upd (upd (fun _ => 0) 0 (nI 100)) 1 (nI 100)) 2 (nI 100))) (j := 3) (T2 := w.2 ++ [arI G z 4 (fun _ => 0), arI G y 4 (upd (upd (upd (upd (fun _ => 0) 0 (nI 100)) 1 (nI 100)) 2 (nI 100)) 3 (nI 100))]) tl1 dL_dragons_32 rfl (by decide) (by decide) ts1 ?_
  refine ev_ast3 dL_dragons_33 (by decide) rfl ?_
  refine ev_iconst dL_dragons_34 ic0 ?_
  refine ev_ist4 dL_dragons_35 (by decide) rfl ?_
  have h0 : ∀ r, r < 4 → (upd (upd (upd (upd (fun _ => 0) 0 (nI 100)) 1 (nI 100)) 2 (nI 100)) 3 (nI 100)) r = nI 100 := by
    intro r hr
    obtain rfl | rfl | rfl | rfl : r = 0 ∨ r = 1 ∨ r = 2 ∨ r = 3 := by omega
    all_goals rfl
  refine ev_bu (20 * nD (aS A) + 100) (by omega) (gL_dragons_b (S := aS A) rfl ho hd (fun w1 g h v5 v6 v7 hX hT hg => ?_) (nD (aS A)) 0 _ _ _ _ _ _ (by omega) (aX_of rfl hX) rfl (fun r hr => ⟨rfl, h0 r hr⟩))
  have hg : (∀ r, r < 4 → g r = nI (dOf (aS A) (nI r)) ∧ h r = sC (aS A) r) := fun r hr => ⟨by rw [(hg r hr).1, dq_of hd ho hr], by rw [(hg r hr).2, (hd.2.1 r hr).1]⟩
  refine ev_iconst dL_dragons_160 ic0 ?_
  refine ev_ist4 dL_dragons_161 (by decide) rfl ?_
  refine ev_iconst dL_dragons_163 ic0 ?_
  refine ev_ist5 dL_dragons_164 (by decide) rfl ?_
  refine ev_bu (4 * 4 + 20) (by decide) (gL_dragons_c (S := aS A) rfl hd hg (fun w1 hX hT => ?_) 4 0 w1 rfl hX hT)
  refine ev_aload_n dL_dragons_237 rfl ?_
  refine ev_iconst dL_dragons_238 ic3 ?_
  refine ev_qc kL_255 co0 (as := [.int (nI 3)]) (rest := []) (fX11_account_y (G := G) hX (i := 3) (by omega)) dL_dragons_239 rfl (by decide) (by omega) rfl (fun w2 hX hT2 => ?_)
  rw [show acV A 3 = al_S (aS A) 4 from rfl]
  replace hT := hT2.trans hT
  refine ev_iload dL_dragons_242 rfl ?_
  refine ev_icmp_ne_f (tgt := 289) dL_dragons_244 (by decide) rfl ?_
  refine ev_aload_n dL_dragons_247 rfl ?_
  refine ev_bipush (v := nI 6) dL_dragons_248 (by decide) ?_
  refine ev_qc kL_255 co0 (as := [.int (nI 6)]) (rest := []) (fX11_account_y (G := G) hX (i := 6) (by omega)) dL_dragons_250 rfl (by decide) (by omega) rfl (fun w2 hX hT2 => ?_)
  rw [show acV A 6 = sM (aS A) 2 from rfl]
  replace hT := hT2.trans hT
  refine ev_if_ne_f (tgt := 289) dL_dragons_253 (by decide) (hd.2.2.1.trans rfl) ?_
  refine ev_aload_n dL_dragons_256 rfl ?_
  refine ev_bipush (v := nI 7) dL_dragons_257 (by decide) ?_
  refine ev_qc kL_255 co0 (as := [.int (nI 7)]) (rest := []) (fX11_account_y (G := G) hX (i := 7) (by omega)) dL_dragons_259 rfl (by decide) (by omega) rfl (fun w2 hX hT2 => ?_)
  rw [show acV A 7 = sM (aS A) 3 from rfl]
  replace hT := hT2.trans hT
  refine ev_if_ne_f (tgt := 289) dL_dragons_262 (by decide) (hd.2.2.2.1.trans rfl) ?_
  refine ev_aload_n dL_dragons_265 rfl ?_
  refine ev_bipush (v := nI 8) dL_dragons_266 (by decide) ?_
  refine ev_qc kL_255 co0 (as := [.int (nI 8)]) (rest := []) (fX11_account_y (G := G) hX (i := 8) (by omega)) dL_dragons_268 rfl (by decide) (by omega) rfl (fun w2 hX hT2 => ?_)
  rw [show acV A 8 = sM (aS A) 4 from rfl]
  replace hT := hT2.trans hT
  refine ev_if_ne_f (tgt := 289) dL_dragons_271 (by decide) (hd.2.2.2.2.trans rfl) ?_
  refine ev_aload_n dL_dragons_274 rfl ?_
  refine ev_iload_n dL_dragons_275 rfl ?_
  refine ev_iconst dL_dragons_276 ic3 ?_
  refine ev_q kL_298 (as := [.ref 0, .int (nI (nD (aS A))), .int (nI 3)]) (rest := []) (hL_dragonOf hX ((nI (nD (aS A)))) ((nI 3))) dL_dragons_277 rfl (by decide) (by omega) rfl (fun w2 hX hT2 => ?_)
  rw [lc_drn ho]
  replace hT := hT2.trans hT
  refine ev_bipush (v := (-11)) dL_dragons_280 (by decide) ?_
  refine ev_icmp_ne_f (tgt := 289) dL_dragons_282 (by decide) rfl ?_
  refine ev_iconst dL_dragons_285 ic1 ?_
  refine ev_goto (tgt := 290) dL_dragons_286 (by decide) ?_
  refine ev_tl (T' := w.2) (by rw [hT]; exact List.sublist_append_left _ _) ?_
  exact ev_iretP dL_dragons_290 rfl (by decide) ⟨rfl, aX_of rfl hX, rfl⟩
