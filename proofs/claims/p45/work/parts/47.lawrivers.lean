/-! the law's judgement of the rivers -/
theorem bsd_sy : ∀ i j : Fin 64, bsd i.val j.val = bsd j.val i.val := by decide +kernel
theorem nb_bsd {c e dd : Nat} (hc : c < 64) (hd : dd < 4) (h : nb c dd = some e) : bsd e c = true := by
  have he := nb_lt hc h
  rw [bsd_sy ⟨e, he⟩ ⟨c, hc⟩, bsd_nb ⟨c, hc⟩ ⟨e, he⟩]
  exact List.any_eq_true.mpr ⟨dd, List.mem_range.mpr hd, beq_iff_eq.mpr h⟩
/-- whether the first p places of a river touch a realm -/
def btN (S : ST) (i r p : Nat) : Nat := if 0 < ct (fun q => sO S (rP S i q) == nI r) p then 1 else 0
def mskN (S : ST) (i p : Nat) : Nat := btN S i 0 p + 2 * btN S i 1 p + 4 * btN S i 2 p + 8 * btN S i 3 p
theorem btN_s {S : ST} {i r p : Nat} : btN S i r (p + 1) = if sO S (rP S i p) = nI r then 1 else btN S i r p := by
  unfold btN
  by_cases h : sO S (rP S i p) = nI r
  · rw [if_pos h, ct_t (by simp [h]), if_pos (by omega)]
  · rw [if_neg h, ct_f (by simp [h])]
theorem btN_2 {S : ST} {i r p : Nat} : btN S i r p < 2 := by unfold btN; split <;> omega
theorem or_tb : ∀ a b c d : Fin 2, (nI (a.val + 2 * b.val + 4 * c.val + 8 * d.val) ||| ((nI 1) <<< (nI 0 &&& 31)) = nI (1 + 2 * b.val + 4 * c.val + 8 * d.val)) ∧ (nI (a.val + 2 * b.val + 4 * c.val + 8 * d.val) ||| ((nI 1) <<< (nI 1 &&& 31)) = nI (a.val + 2 * 1 + 4 * c.val + 8 * d.val)) ∧ (nI (a.val + 2 * b.val + 4 * c.val + 8 * d.val) ||| ((nI 1) <<< (nI 2 &&& 31)) = nI (a.val + 2 * b.val + 4 * 1 + 8 * d.val)) ∧ (nI (a.val + 2 * b.val + 4 * c.val + 8 * d.val) ||| ((nI 1) <<< (nI 3 &&& 31)) = nI (a.val + 2 * b.val + 4 * c.val + 8 * 1)) ∧ (nI (a.val + 2 * b.val + 4 * c.val + 8 * d.val) ||| nI 0 = nI (a.val + 2 * b.val + 4 * c.val + 8 * d.val)) := by decide +kernel
theorem sh_tb : ∀ a b c d : Fin 2, ((nI (a.val + 2 * b.val + 4 * c.val + 8 * d.val) >>> (nI 0 &&& 31)) &&& nI 1 = nI a.val) ∧ ((nI (a.val + 2 * b.val + 4 * c.val + 8 * d.val) >>> (nI 1 &&& 31)) &&& nI 1 = nI b.val) ∧ ((nI (a.val + 2 * b.val + 4 * c.val + 8 * d.val) >>> (nI 2 &&& 31)) &&& nI 1 = nI c.val) ∧ ((nI (a.val + 2 * b.val + 4 * c.val + 8 * d.val) >>> (nI 3 &&& 31)) &&& nI 1 = nI d.val) := by decide +kernel
theorem msk_o {S : ST} {i p c : Nat} (hc : c < 4) (h : sO S (rP S i p) = nI c) : nI (mskN S i p) ||| ((nI 1) <<< (nI c &&& 31)) = nI (mskN S i (p + 1)) := by
  have t := or_tb ⟨_, btN_2 (S := S) (i := i) (r := 0) (p := p)⟩ ⟨_, btN_2 (S := S) (i := i) (r := 1) (p := p)⟩ ⟨_, btN_2 (S := S) (i := i) (r := 2) (p := p)⟩ ⟨_, btN_2 (S := S) (i := i) (r := 3) (p := p)⟩
  have ne : ∀ a b : Nat, a < 4 → b < 4 → a ≠ b → nI a ≠ nI b := fun a b ha hb hn q => hn ((nI_eq (by omega) (by omega)).mp q)
  unfold mskN
  rw [btN_s, btN_s, btN_s, btN_s, h]
  obtain rfl | rfl | rfl | rfl : c = 0 ∨ c = 1 ∨ c = 2 ∨ c = 3 := by omega
  · rw [if_pos rfl, if_neg (ne 0 1 (by decide) (by decide) (by decide)), if_neg (ne 0 2 (by decide) (by decide) (by decide)), if_neg (ne 0 3 (by decide) (by decide) (by decide))]
    exact t.1
  · rw [if_pos rfl, if_neg (ne 1 0 (by decide) (by decide) (by decide)), if_neg (ne 1 2 (by decide) (by decide) (by decide)), if_neg (ne 1 3 (by decide) (by decide) (by decide))]
    exact t.2.1
  · rw [if_pos rfl, if_neg (ne 2 0 (by decide) (by decide) (by decide)), if_neg (ne 2 1 (by decide) (by decide) (by decide)), if_neg (ne 2 3 (by decide) (by decide) (by decide))]
    exact t.2.2.1
  · rw [if_pos rfl, if_neg (ne 3 0 (by decide) (by decide) (by decide)), if_neg (ne 3 1 (by decide) (by decide) (by decide)), if_neg (ne 3 2 (by decide) (by decide) (by decide))]
    exact t.2.2.2.1
theorem msk_n {S : ST} {i p : Nat} (h : sO S (rP S i p) = -1) : nI (mskN S i p) ||| nI 0 = nI (mskN S i (p + 1)) := by
  have t := or_tb ⟨_, btN_2 (S := S) (i := i) (r := 0) (p := p)⟩ ⟨_, btN_2 (S := S) (i := i) (r := 1) (p := p)⟩ ⟨_, btN_2 (S := S) (i := i) (r := 2) (p := p)⟩ ⟨_, btN_2 (S := S) (i := i) (r := 3) (p := p)⟩
  have ne : ∀ a : Nat, a < 4 → ¬ ((-1 : Int32) = nI a) := fun a ha q => nI_m1 (by omega) q.symm
  unfold mskN
  rw [btN_s, btN_s, btN_s, btN_s, h, if_neg (ne 0 (by decide)), if_neg (ne 1 (by decide)), if_neg (ne 2 (by decide)), if_neg (ne 3 (by decide))]
  exact t.2.2.2.2
theorem msk_r {S : ST} {i p r : Nat} (hr : r < 4) : (nI (mskN S i p) >>> (nI r &&& 31)) &&& nI 1 = nI (btN S i r p) := by
  have t := sh_tb ⟨_, btN_2 (S := S) (i := i) (r := 0) (p := p)⟩ ⟨_, btN_2 (S := S) (i := i) (r := 1) (p := p)⟩ ⟨_, btN_2 (S := S) (i := i) (r := 2) (p := p)⟩ ⟨_, btN_2 (S := S) (i := i) (r := 3) (p := p)⟩
  obtain rfl | rfl | rfl | rfl : r = 0 ∨ r = 1 ∨ r = 2 ∨ r = 3 := by omega
  · exact t.1
  · exact t.2.1
  · exact t.2.2.1
  · exact t.2.2.2
def inR (S : ST) (r k : Nat) : Nat := ct (fun i => decide (0 < cR S i (nI r))) k
theorem inR_s {S : ST} {r k : Nat} : inR S r (k + 1) = inR S r k + btN S k r (rN S k + 1) := by
  show inR S r k + (if decide (0 < cR S k (nI r)) = true then 1 else 0) = _
  unfold btN cR
  simp only [decide_eq_true_eq]
/-- whether the step to place p crosses a border -/
def xB (S : ST) (i p : Nat) : Bool := decide (0 < p) && xs S i (p - 1)
theorem xB_s {S : ST} {i p : Nat} : ct (xs S i) (p - 1) + (if xB S i p = true then 1 else 0) = ct (xs S i) p := by
  cases p with
  | zero => rfl
  | succ p =>
    unfold xB
    rw [Nat.add_sub_cancel, ct_s]
    simp
theorem dd_cm : ∀ a : Fin 829, ∀ n : Fin 4, Op.cmpValue (FP.dcmp (FP.ddiv (FP.i2d (nI a.val)) (FP.i2d (nI (n.val + 1)))) (FP.ddiv (FP.i2d (nI a.val)) (FP.i2d (nI (n.val + 1))))) .l = 0 := by decide +kernel
theorem mw_cm {S : ST} (hk : okS S) (hn : nR S ≠ 0) : Op.cmpValue (FP.dcmp (mwD S) (FP.ddiv (FP.i2d (qWr S)) (FP.i2d (nI (nR S))))) .l = 0 := by
  obtain ⟨m, h1, h9, h0⟩ := hk.2.2.2
  have h4 := hk.2.1.1
  have hq : qWr S = nI (awr S m) := by unfold qWr; rw [h0, oN_nI (by omega)]
  have hle : awr S m ≤ 828 := by
    have h := sm_le (f := wr S m) (b := 207) (n := nR S) (fun i hi => wr_le hk hi h9)
    have : nR S * 207 ≤ 4 * 207 := Nat.mul_le_mul_right _ h4
    unfold awr
    omega
  unfold mwD
  rw [hq]
  have q := dd_cm ⟨awr S m, by omega⟩ ⟨nR S - 1, by omega⟩
  rw [show (⟨nR S - 1, by omega⟩ : Fin 4).val + 1 = nR S by show nR S - 1 + 1 = nR S; omega] at q
  exact q
theorem lc_hv {S : ST} {p a : Nat} (h : plc (fV S) (gV S) (nR S) (nI p) = some a) {cs : List Int32} : lc_ cs (qHv S (nI p)) = nI a := by
  unfold qHv
  rw [h]
  rfl
theorem lc_hvn {S : ST} (h : plc (fV S) (gV S) (nR S) (nI (nR S)) = none) {x : Int32} : lc_ [x] (qHv S (nI (nR S))) = x := by
  unfold qHv
  rw [h]
  rfl
theorem nF_V {S : ST} (hk : okS S) : nF (fV S) (fun i => wgt S i) (nR S) := fun i hi => ⟨rfl, by
  have h := (hk.2.1.2 i hi).2.2.1
  have h1 := sm_le (f := wf S i) (b := 2) (n := rN S i + 1) (fun j _ => by unfold wf; split <;> omega)
  have h2 := ct_le (xs S i) (rN S i)
  show wgt S i < _
  unfold wgt
  omega⟩
theorem nF_g {S : ST} (hk : okS S) : nF (gV S) (fun i => rN S i) (nR S) := fun i hi => ⟨rfl, by have h := (hk.2.1.2 i hi).2.2.1; show rN S i < _; omega⟩
set_option maxRecDepth 8000 in
theorem gL_rivers_a {G : GX} {T : va_W} {A : AS} {S : ST} {bb : Nat} (hS : aS A = S) (ho : okS S) {a z i : Nat} (hi : i < nR S) {g : Nat → Int32} {Z : ZT}
    (K : ∀ (w : WS) (v10 v11 : Option Value), aX A w → w.2 = T ++ [arI G a 64 (cE S), arI G z 4 g] → Ev G 22 bb mL_rivers 203 [some (.ref 0), some (.int (nI (nR S))), some (dy a), some (dy z), some (.int (nI (i))), some (.int (nI (rN S i))), some (.int (nI (sm (wf S i) (rN S i + 1) + 3 * ct (xs S i) ((rN S i + 1) - 1)))), some (.int (nI (ct (xs S i) ((rN S i + 1) - 1)))), some (.int (nI (mskN S i (rN S i + 1)))), some (.int (nI ((rN S i + 1)))), v10, v11] [] w Z) :
    ∀ (n p : Nat) (w : WS) (v10 v11 : Option Value), p + n = rN S i + 1 → aX A w → w.2 = T ++ [arI G a 64 (cE S), arI G z 4 g] → Ev G 22 (3 * n + bb) mL_rivers 45 [some (.ref 0), some (.int (nI (nR S))), some (dy a), some (dy z), some (.int (nI (i))), some (.int (nI (rN S i))), some (.int (nI (sm (wf S i) p + 3 * ct (xs S i) (p - 1)))), some (.int (nI (ct (xs S i) (p - 1)))), some (.int (nI (mskN S i p))), some (.int (nI (p))), v10, v11] [] w Z := by
  obtain ⟨hv1, hv2, hv3, hv4, hv5⟩ := ho.2.1.2 i hi
  intro n
  induction n with
  | zero =>
    intro p w v10 v11 hp hX hT
    obtain rfl : p = rN S i + 1 := by omega
    refine ev_iload dL_rivers_45 rfl ?_
    refine ev_iload dL_rivers_47 rfl ?_
    refine ev_icmp_gt_t (tgt := 203) dL_rivers_49 (by decide) (by show nI (rN S i) < nI (rN S i + 1); exact nI_lt (by omega) (by omega)) ?_
    exact ev_bu _ (by omega) (K w v10 v11 hX hT)
  | succ n ih =>
    intro p w v10 v11 hp hX hT
    have hpl : p ≤ rN S i := by omega
    have hat : rP S i p < 64 := hv4 p hpl
    have at105 : ∀ (w : WS) (X : Bool), X = xB S i p → aX A w → w.2 = T ++ [arI G a 64 (cE S), arI G z 4 g] → Ev G 22 (3 * n + 1 + bb) mL_rivers 105 [some (.ref 0), some (.int (nI (nR S))), some (dy a), some (dy z), some (.int (nI (i))), some (.int (nI (rN S i))), some (.int (nI (sm (wf S i) p + 3 * ct (xs S i) (p - 1)))), some (.int (nI (ct (xs S i) (p - 1)))), some (.int (nI (mskN S i p))), some (.int (nI (p))), some (.int (nI (rP S i p))), v11] [.int (bI X)] w Z := by
      intro w X hXB hX hT
      have at132 : ∀ (w : WS), aX A w → w.2 = T ++ [arI G a 64 (cE S), arI G z 4 g] → Ev G 22 (3 * n + bb) mL_rivers 132 [some (.ref 0), some (.int (nI (nR S))), some (dy a), some (dy z), some (.int (nI (i))), some (.int (nI (rN S i))), some (.int (nI (sm (wf S i) p + 3 * ct (xs S i) (p - 1)))), some (.int (nI (ct (xs S i) (p - 1)))), some (.int (nI (mskN S i p))), some (.int (nI (p))), some (.int (nI (rP S i p))), some (.int (bI X))] [] w Z := by
        intro w hX hT
        have at194 : ∀ (v : Int32) (we cr : Nat), nI (mskN S i p) ||| v = nI (mskN S i (p + 1)) → we = sm (wf S i) (p + 1) + 3 * ct (xs S i) p → cr = ct (xs S i) p → Ev G 22 (3 * n + bb) mL_rivers 194 [some (.ref 0), some (.int (nI (nR S))), some (dy a), some (dy z), some (.int (nI (i))), some (.int (nI (rN S i))), some (.int (nI (we))), some (.int (nI (cr))), some (.int (nI (mskN S i p))), some (.int (nI (p))), some (.int (nI (rP S i p))), some (.int (bI X))] [.int v, .int (nI (mskN S i p))] w Z := by
          intro v we cr h1 h2 h3
          subst h2
          subst h3
          refine ev_ior dL_rivers_194 h1 ?_
          refine ev_ist8 dL_rivers_195 (by decide) rfl ?_
          refine ev_iinc9 dL_rivers_197 (nI_inc _) (by decide) rfl ?_
          refine ev_goto (tgt := 45) dL_rivers_200 (by decide) ?_
          exact ih (p + 1) w _ _ (by omega) hX hT
        have at171 : ∀ (u v cr : Nat), sm (wf S i) p + 3 * ct (xs S i) (p - 1) + (u + v) = sm (wf S i) (p + 1) + 3 * ct (xs S i) p → cr = ct (xs S i) p → Ev G 22 (3 * n + bb) mL_rivers 171 [some (.ref 0), some (.int (nI (nR S))), some (dy a), some (dy z), some (.int (nI (i))), some (.int (nI (rN S i))), some (.int (nI (sm (wf S i) p + 3 * ct (xs S i) (p - 1)))), some (.int (nI (cr))), some (.int (nI (mskN S i p))), some (.int (nI (p))), some (.int (nI (rP S i p))), some (.int (bI X))] [.int (nI v), .int (nI u), .int (nI (sm (wf S i) p + 3 * ct (xs S i) (p - 1)))] w Z := by
          intro u v cr h1 h2
          refine ev_iadd dL_rivers_171 ?_
          refine ev_top (nI_add _ _) ?_
          refine ev_iadd dL_rivers_172 ?_
          refine ev_top (nI_add _ _) ?_
          refine ev_ist6 dL_rivers_173 (by decide) rfl ?_
          refine ev_iload dL_rivers_175 rfl ?_
          refine ev_aload_n dL_rivers_177 rfl ?_
          refine ev_iload dL_rivers_178 rfl ?_
          refine ev_ialoadT (w := w) (t := 0) (i := T.length) (f := cE S) (by rw [hT]; exact tl0) dL_rivers_180 rfl hat (by decide) ?_
          refine ev_top (cE_at hat) ?_
          rcases ho.1 _ hat with e | ⟨c, hc4, e⟩
          · refine ev_if_ge_f (tgt := 188) dL_rivers_181 (by decide) (by rw [e]; decide) ?_
            refine ev_iconst dL_rivers_184 ic0 ?_
            refine ev_goto (tgt := 194) dL_rivers_185 (by decide) ?_
            exact at194 _ _ _ (msk_n e) h1 h2
          · refine ev_if_ge_t (tgt := 188) dL_rivers_181 (by decide) (by rw [e]; exact Int32.not_lt.mp (nI_pos (by omega))) ?_
            refine ev_iconst dL_rivers_188 ic1 ?_
            refine ev_aload_n dL_rivers_189 rfl ?_
            refine ev_iload dL_rivers_190 rfl ?_
            refine ev_ialoadT (w := w) (t := 0) (i := T.length) (f := cE S) (by rw [hT]; exact tl0) dL_rivers_192 rfl hat (by decide) ?_
            refine ev_top (cE_at hat) ?_
            refine ev_top e ?_
            refine ev_ishl dL_rivers_193 rfl ?_
            exact at194 _ _ _ (msk_o hc4 e) h1 h2
        have at161 : ∀ (u cr : Nat), u = wf S i p → cr = ct (xs S i) p → Ev G 22 (3 * n + bb) mL_rivers 161 [some (.ref 0), some (.int (nI (nR S))), some (dy a), some (dy z), some (.int (nI (i))), some (.int (nI (rN S i))), some (.int (nI (sm (wf S i) p + 3 * ct (xs S i) (p - 1)))), some (.int (nI (cr))), some (.int (nI (mskN S i p))), some (.int (nI (p))), some (.int (nI (rP S i p))), some (.int (bI X))] [.int (nI u), .int (nI (sm (wf S i) p + 3 * ct (xs S i) (p - 1)))] w Z := by
          intro u cr hu h2
          have hx := xB_s (S := S) (i := i) (p := p)
          rw [← hXB] at hx
          refine ev_iload dL_rivers_161 rfl ?_
          cases X with
          | false =>
            refine ev_if_eq_t (tgt := 170) dL_rivers_163 (by decide) rfl ?_
            refine ev_iconst dL_rivers_170 ic0 ?_
            exact at171 u 0 cr (by rw [sm_s, hu]; simp at hx; omega) h2
          | true =>
            refine ev_if_eq_f (tgt := 170) dL_rivers_163 (by decide) (by decide) ?_
            refine ev_iconst dL_rivers_166 ic3 ?_
            refine ev_goto (tgt := 171) dL_rivers_167 (by decide) ?_
            exact at171 u 3 cr (by rw [sm_s, hu]; simp at hx; omega) h2
        have at144 : ∀ x : Nat, ct (xs S i) (p - 1) + x = ct (xs S i) p → Ev G 22 (3 * n + bb) mL_rivers 144 [some (.ref 0), some (.int (nI (nR S))), some (dy a), some (dy z), some (.int (nI (i))), some (.int (nI (rN S i))), some (.int (nI (sm (wf S i) p + 3 * ct (xs S i) (p - 1)))), some (.int (nI (ct (xs S i) (p - 1)))), some (.int (nI (mskN S i p))), some (.int (nI (p))), some (.int (nI (rP S i p))), some (.int (bI X))] [.int (nI x), .int (nI (ct (xs S i) (p - 1)))] w Z := by
          intro x hx
          refine ev_iadd dL_rivers_144 ?_
          refine ev_top (nI_add _ _) ?_
          refine ev_ist7 dL_rivers_145 (by decide) rfl ?_
          refine ev_iload dL_rivers_147 rfl ?_
          refine ev_aload_n dL_rivers_149 rfl ?_
          refine ev_iload dL_rivers_150 rfl ?_
          refine ev_ialoadT (w := w) (t := 0) (i := T.length) (f := cE S) (by rw [hT]; exact tl0) dL_rivers_152 rfl hat (by decide) ?_
          refine ev_top (cE_at hat) ?_
          rcases ho.1 _ hat with e | ⟨c, hc4, e⟩
          · refine ev_if_ge_f (tgt := 160) dL_rivers_153 (by decide) (by rw [e]; decide) ?_
            refine ev_iconst dL_rivers_156 ic1 ?_
            refine ev_goto (tgt := 161) dL_rivers_157 (by decide) ?_
            exact at161 1 _ (by unfold wf; rw [if_pos e]) hx
          · refine ev_if_ge_t (tgt := 160) dL_rivers_153 (by decide) (by rw [e]; exact Int32.not_lt.mp (nI_pos (by omega))) ?_
            refine ev_iconst dL_rivers_160 ic2 ?_
            exact at161 2 _ (by unfold wf; rw [if_neg (by rw [e]; exact nI_m1 (by omega))]) hx
        have hx := xB_s (S := S) (i := i) (p := p)
        rw [← hXB] at hx
        refine ev_iload dL_rivers_132 rfl ?_
        refine ev_iload dL_rivers_134 rfl ?_
        cases X with
        | false =>
          refine ev_if_eq_t (tgt := 143) dL_rivers_136 (by decide) rfl ?_
          refine ev_iconst dL_rivers_143 ic0 ?_
          exact at144 0 (by simpa using hx)
        | true =>
          refine ev_if_eq_f (tgt := 143) dL_rivers_136 (by decide) (by decide) ?_
          refine ev_iconst dL_rivers_139 ic1 ?_
          refine ev_goto (tgt := 144) dL_rivers_140 (by decide) ?_
          exact at144 1 (by simpa using hx)
      refine ev_istore_g dL_rivers_105 (by decide) rfl ?_
      refine ev_iload dL_rivers_107 rfl ?_
      by_cases h0 : p = 0
      · refine ev_if_le_t (tgt := 132) dL_rivers_109 (by decide) (by rw [h0]; decide) ?_
        exact ev_bu _ (by omega) (at132 w hX hT)
      · refine ev_if_le_f (tgt := 132) dL_rivers_109 (by decide) (fun q => by have := (pk_le' (a := p) (b := 0) (by omega) (by decide)).mp q; omega) ?_
        obtain ⟨dd, hd4, hnb⟩ := hv5 (p - 1) (by omega)
        rw [show p - 1 + 1 = p by omega] at hnb
        have hpv : rP S i (p - 1) < 64 := hv4 (p - 1) (by omega)
        refine ev_iload dL_rivers_112 rfl ?_
        refine ev_aload_n dL_rivers_114 rfl ?_
        refine ev_iload dL_rivers_115 rfl ?_
        refine ev_iload dL_rivers_117 rfl ?_
        refine ev_iconst dL_rivers_119 ic1 ?_
        refine ev_isub dL_rivers_120 ?_
        refine ev_top (pk_sub (by omega)) ?_
        refine ev_q kL_278 (as := [.ref 0, .int (nI i), .int (nI (p - 1))]) (rest := [.int (nI (rP S i p))]) (hL_riverAt hX ((nI i)) ((nI (p - 1)))) dL_rivers_121 rfl (by decide) (by omega) rfl (fun w2 hX hT2 => ?_)
        rw [hS, lc_ra ho hi (by omega)]
        replace hT := hT2.trans hT
        refine ev_callS (w := w2) kL_200 (as := [.int (nI (rP S i p)), .int (nI (rP S i (p - 1)))]) (rest := []) (gL_areBeside hat hpv) dL_rivers_124 rfl (by decide) (Nat.zero_le _) rfl ?_
        refine ev_if_ne_t (tgt := 132) dL_rivers_127 (by decide) (by rw [nb_bsd hpv hd4 hnb]; decide) ?_
        exact ev_bu _ (by omega) (at132 w2 hX hT)
    refine ev_iload dL_rivers_45 rfl ?_
    refine ev_iload dL_rivers_47 rfl ?_
    refine ev_icmp_gt_f (tgt := 203) dL_rivers_49 (by decide) (by show ¬ nI (rN S i) < nI p; exact nI_nlt hpl (by omega)) ?_
    refine ev_aload_n dL_rivers_52 rfl ?_
    refine ev_iload dL_rivers_53 rfl ?_
    refine ev_iload dL_rivers_55 rfl ?_
    refine ev_q kL_278 (as := [.ref 0, .int (nI i), .int (nI p)]) (rest := []) (hL_riverAt hX ((nI i)) ((nI p))) dL_rivers_57 rfl (by decide) (by omega) rfl (fun w2 hX hT2 => ?_)
    rw [hS, lc_ra ho hi hpl]
    replace hT := hT2.trans hT
    refine ev_istore_g dL_rivers_60 (by decide) rfl ?_
    refine ev_iload dL_rivers_62 rfl ?_
    refine ev_if_lt_f (tgt := 74) dL_rivers_64 (by decide) (nI_pos (by omega)) ?_
    refine ev_iload dL_rivers_67 rfl ?_
    refine ev_bipush (v := nI 63) dL_rivers_69 (by decide) ?_
    refine ev_icmp_le_t (tgt := 76) dL_rivers_71 (by decide) (by show nI (rP S i p) ≤ nI 63; exact Int32.not_lt.mp (nI_nlt (by omega) (by decide))) ?_
    refine ev_iload dL_rivers_76 rfl ?_
    by_cases h0 : p = 0
    · refine ev_if_le_t (tgt := 104) dL_rivers_78 (by decide) (by rw [h0]; decide) ?_
      refine ev_iconst dL_rivers_104 ic0 ?_
      exact ev_bu _ (by omega) (at105 w2 false (by unfold xB; rw [h0]; rfl) hX hT)
    · refine ev_if_le_f (tgt := 104) dL_rivers_78 (by decide) (fun q => by have := (pk_le' (a := p) (b := 0) (by omega) (by decide)).mp q; omega) ?_
      have hpv : rP S i (p - 1) < 64 := hv4 (p - 1) (by omega)
      refine ev_aload_n dL_rivers_81 rfl ?_
      refine ev_iload dL_rivers_82 rfl ?_
      refine ev_ialoadT (w := w2) (t := 0) (i := T.length) (f := cE S) (by rw [hT]; exact tl0) dL_rivers_84 rfl hat (by decide) ?_
      refine ev_top (cE_at hat) ?_
      refine ev_aload_n dL_rivers_85 rfl ?_
      refine ev_aload_n dL_rivers_86 rfl ?_
      refine ev_iload dL_rivers_87 rfl ?_
      refine ev_iload dL_rivers_89 rfl ?_
      refine ev_iconst dL_rivers_91 ic1 ?_
      refine ev_isub dL_rivers_92 ?_
      refine ev_top (pk_sub (by omega)) ?_
      refine ev_q kL_278 (as := [.ref 0, .int (nI i), .int (nI (p - 1))]) (rest := [dy a, .int (sO S (rP S i p))]) (hL_riverAt hX ((nI i)) ((nI (p - 1)))) dL_rivers_93 rfl (by decide) (by omega) rfl (fun w2 hX hT2 => ?_)
      rw [hS, lc_ra ho hi (by omega)]
      replace hT := hT2.trans hT
      refine ev_ialoadT (w := w2) (t := 0) (i := T.length) (f := cE S) (by rw [hT]; exact tl0) dL_rivers_96 rfl hpv (by decide) ?_
      refine ev_top (cE_at hpv) ?_
      by_cases e : sO S (rP S i p) = sO S (rP S i (p - 1))
      · refine ev_icmp_eq_t (tgt := 104) dL_rivers_97 (by decide) e ?_
        refine ev_iconst dL_rivers_104 ic0 ?_
        exact ev_bu _ (by omega) (at105 _ false (by unfold xB xs; rw [show p - 1 + 1 = p by omega, e]; simp) hX hT)
      · refine ev_icmp_eq_f (tgt := 104) dL_rivers_97 (by decide) e ?_
        refine ev_iconst dL_rivers_100 ic1 ?_
        refine ev_goto (tgt := 105) dL_rivers_101 (by decide) ?_
        exact ev_bu _ (by omega) (at105 _ true (by unfold xB xs; rw [show p - 1 + 1 = p by omega, decide_eq_true (show 0 < p by omega), bne_iff_ne.mpr (fun q => e (Eq.symm q))]; rfl) hX hT)
set_option maxRecDepth 8000 in
theorem gL_rivers_b {G : GX} {T : va_W} {A : AS} {S : ST} {bb : Nat} {a z i : Nat} {v4 v5 v6 v7 v10 v11 : Option Value} {Z : ZT}
    (K : ∀ (w : WS) (g : Nat → Int32), aX A w → w.2 = T ++ [arI G a 64 (cE S), arI G z 4 g] → (∀ rr, rr < 4 → g rr = nI (inR S rr (if rr < 4 then i + 1 else i))) → Ev G 22 bb mL_rivers 232 [some (.ref 0), some (.int (nI (nR S))), some (dy a), some (dy z), v4, v5, v6, v7, some (.int (nI (mskN S i (rN S i + 1)))), some (.int (nI (4))), v10, v11] [] w Z) :
    ∀ (n r : Nat) (w : WS) (g : Nat → Int32), r + n = 4 → aX A w → w.2 = T ++ [arI G a 64 (cE S), arI G z 4 g] → (∀ rr, rr < 4 → g rr = nI (inR S rr (if rr < r then i + 1 else i))) → Ev G 22 bb mL_rivers 206 [some (.ref 0), some (.int (nI (nR S))), some (dy a), some (dy z), v4, v5, v6, v7, some (.int (nI (mskN S i (rN S i + 1)))), some (.int (nI (r))), v10, v11] [] w Z := by
  intro n
  induction n with
  | zero =>
    intro r w g hr hX hT hg
    obtain rfl : r = 4 := by omega
    refine ev_iload dL_rivers_206 rfl ?_
    refine ev_iconst dL_rivers_208 ic4 ?_
    refine ev_icmp_ge_t (tgt := 232) dL_rivers_209 (by decide) (Int32.le_refl _) ?_
    exact K w g hX hT hg
  | succ n ih =>
    intro r w g hr hX hT hg
    have hr4 : r < 4 := by omega
    have hgr : g r = nI (inR S r i) := by rw [hg r hr4, if_neg (Nat.lt_irrefl r)]
    refine ev_iload dL_rivers_206 rfl ?_
    refine ev_iconst dL_rivers_208 ic4 ?_
    refine ev_icmp_ge_f (tgt := 232) dL_rivers_209 (by decide) (nI_ge hr4 (by decide)) ?_
    refine ev_aload_n dL_rivers_212 rfl ?_
    refine ev_iload dL_rivers_213 rfl ?_
    refine ev_dup2 dL_rivers_215 rfl rfl ?_
    refine ev_ialoadT (w := w) (t := 0) (i := T.length + 1) (f := g) (by rw [hT]; exact tl1) dL_rivers_216 rfl hr4 (by decide) ?_
    refine ev_top hgr ?_
    refine ev_iload dL_rivers_217 rfl ?_
    refine ev_iload dL_rivers_219 rfl ?_
    refine ev_ishr dL_rivers_221 rfl ?_
    refine ev_iconst dL_rivers_222 ic1 ?_
    refine ev_iand dL_rivers_223 ?_
    refine ev_top (msk_r hr4) ?_
    refine ev_iadd dL_rivers_224 ?_
    refine ev_top (nI_add _ _) ?_
    rw [← inR_s]
    refine ev_iastoreT (w := w) (i := T.length + 1) (f := g) (T2 := T ++ [arI G a 64 (cE S), arI G z 4 (upd g r (nI (inR S r (i + 1))))]) (by rw [hT]; exact tl1) dL_rivers_225 rfl hr4 (by decide) (by rw [hT]; exact ts1) ?_
    refine ev_iinc9 dL_rivers_226 (nI_inc _) (by decide) rfl ?_
    refine ev_goto (tgt := 206) dL_rivers_229 (by decide) ?_
    refine ih (r + 1) _ _ (by omega) (aX_of rfl hX) rfl (fun q hq => ?_)
    by_cases e : q = r
    · subst e
      rw [upd_s, if_pos (Nat.lt_succ_self q)]
    · rw [upd_n e, hg q hq]
      by_cases h : q < r
      · rw [if_pos h, if_pos (by omega)]
      · rw [if_neg h, if_neg (by omega)]
set_option maxRecDepth 8000 in
theorem gL_rivers_c {G : GX} {T : va_W} {A : AS} {S : ST} {bb : Nat} (hS : aS A = S) (ho : okS S) {a z : Nat} {Z : ZT}
    (K : ∀ (w : WS) (g : Nat → Int32) (v5 v6 v7 v8 v9 v10 v11 : Option Value), aX A w → w.2 = T ++ [arI G a 64 (cE S), arI G z 4 g] → (∀ r, r < 4 → g r = nI (inR S r (nR S))) → Ev G 22 bb mL_rivers 379 [some (.ref 0), some (.int (nI (nR S))), some (dy a), some (dy z), some (.int (nI (nR S))), v5, v6, v7, v8, v9, v10, v11] [] w Z) :
    ∀ (n i : Nat) (w : WS) (g : Nat → Int32) (v5 v6 v7 v8 v9 v10 v11 : Option Value), i + n = nR S → aX A w → w.2 = T ++ [arI G a 64 (cE S), arI G z 4 g] → (∀ r, r < 4 → g r = nI (inR S r i)) → Ev G 22 (60 * n + bb) mL_rivers 18 [some (.ref 0), some (.int (nI (nR S))), some (dy a), some (dy z), some (.int (nI (i))), v5, v6, v7, v8, v9, v10, v11] [] w Z := by
  have hn4 := ho.2.1.1
  intro n
  induction n with
  | zero =>
    intro i w g v5 v6 v7 v8 v9 v10 v11 hi hX hT hg
    obtain rfl : i = nR S := by omega
    refine ev_iload dL_rivers_18 rfl ?_
    refine ev_iload_n dL_rivers_20 rfl ?_
    refine ev_icmp_ge_t (tgt := 379) dL_rivers_21 (by decide) (Int32.le_refl _) ?_
    exact ev_bu _ (by omega) (K w g _ _ _ _ _ _ _ hX hT hg)
  | succ n ih =>
    intro i w g v5 v6 v7 v8 v9 v10 v11 hin hX hT hg
    have hi : i < nR S := by omega
    have hv12 := (ho.2.1.2 i hi).2.2.1
    refine ev_iload dL_rivers_18 rfl ?_
    refine ev_iload_n dL_rivers_20 rfl ?_
    refine ev_icmp_ge_f (tgt := 379) dL_rivers_21 (by decide) (nI_ge hi (by omega)) ?_
    refine ev_aload_n dL_rivers_24 rfl ?_
    refine ev_iload dL_rivers_25 rfl ?_
    refine ev_iconst dL_rivers_27 ic1 ?_
    refine ev_q kL_276 (as := [.ref 0, .int (nI i), .int (nI 1)]) (rest := []) (hL_riverOf hX ((nI i)) ((nI 1))) dL_rivers_28 rfl (by decide) (by omega) rfl (fun w2 hX hT2 => ?_)
    rw [hS, lc_rv ho hi (by decide), show rvV S i 1 = nI (rN S i) from rfl]
    replace hT := hT2.trans hT
    refine ev_ist5 dL_rivers_31 (by decide) rfl ?_
    refine ev_iconst dL_rivers_33 ic0 ?_
    refine ev_ist6 dL_rivers_34 (by decide) rfl ?_
    refine ev_iconst dL_rivers_36 ic0 ?_
    refine ev_ist7 dL_rivers_37 (by decide) rfl ?_
    refine ev_iconst dL_rivers_39 ic0 ?_
    refine ev_ist8 dL_rivers_40 (by decide) rfl ?_
    refine ev_iconst dL_rivers_42 ic0 ?_
    refine ev_ist9 dL_rivers_43 (by decide) rfl ?_
    refine ev_bu (3 * (rN S i + 1) + (60 * n + 20 + bb)) (by omega) (gL_rivers_a hS ho hi (fun w v10 v11 hX hT => ?_) (rN S i + 1) 0 w2 v10 v11 (by omega) hX hT)
    refine ev_iconst dL_rivers_203 ic0 ?_
    refine ev_ist9 dL_rivers_204 (by decide) rfl ?_
    refine gL_rivers_b (fun w g hX hT hg => ?_) 4 0 w g rfl hX hT (fun r hr => by rw [if_neg (Nat.not_lt_zero r)]; exact hg r hr)
    have hg : (∀ r, r < 4 → g r = nI (inR S r (i + 1))) := fun r hr => by rw [hg r hr, if_pos hr]
    refine ev_aload_n dL_rivers_232 rfl ?_
    refine ev_iload dL_rivers_233 rfl ?_
    refine ev_q kL_280 (as := [.ref 0, .int (nI i)]) (rest := []) (hL_weight hX ((nI i))) dL_rivers_235 rfl (by decide) (by omega) rfl (fun w2 hX hT2 => ?_)
    rw [hS, lc_we ho hi]
    replace hT := hT2.trans hT
    refine ev_iload dL_rivers_238 rfl ?_
    refine ev_icmp_ne_f (tgt := 363) dL_rivers_240 (by decide) rfl ?_
    refine ev_aload_n dL_rivers_243 rfl ?_
    refine ev_iload dL_rivers_244 rfl ?_
    refine ev_q kL_282 (as := [.ref 0, .int (nI i)]) (rest := []) (hL_weightAgain hX ((nI i))) dL_rivers_246 rfl (by decide) (by omega) rfl (fun w2 hX hT2 => ?_)
    rw [hS, lc_we ho hi]
    replace hT := hT2.trans hT
    refine ev_iload dL_rivers_249 rfl ?_
    refine ev_icmp_ne_f (tgt := 363) dL_rivers_251 (by decide) rfl ?_
    refine ev_aload_n dL_rivers_254 rfl ?_
    refine ev_iload dL_rivers_255 rfl ?_
    refine ev_iconst dL_rivers_257 ic5 ?_
    refine ev_q kL_276 (as := [.ref 0, .int (nI i), .int (nI 5)]) (rest := []) (hL_riverOf hX ((nI i)) ((nI 5))) dL_rivers_258 rfl (by decide) (by omega) rfl (fun w2 hX hT2 => ?_)
    rw [hS, lc_rv ho hi (by decide), show rvV S i 5 = nI (ct (xs S i) (rN S i)) from rfl]
    replace hT := hT2.trans hT
    refine ev_iload dL_rivers_261 rfl ?_
    refine ev_icmp_ne_f (tgt := 363) dL_rivers_263 (by decide) rfl ?_
    refine ev_aload_n dL_rivers_266 rfl ?_
    refine ev_iload dL_rivers_267 rfl ?_
    refine ev_iconst dL_rivers_269 ic0 ?_
    refine ev_q kL_276 (as := [.ref 0, .int (nI i), .int (nI 0)]) (rest := []) (hL_riverOf hX ((nI i)) ((nI 0))) dL_rivers_270 rfl (by decide) (by omega) rfl (fun w2 hX hT2 => ?_)
    rw [hS, lc_rv ho hi (by decide), show rvV S i 0 = nI (rP S i 0) from rfl]
    replace hT := hT2.trans hT
    refine ev_aload_n dL_rivers_273 rfl ?_
    refine ev_iload dL_rivers_274 rfl ?_
    refine ev_iconst dL_rivers_276 ic0 ?_
    refine ev_q kL_278 (as := [.ref 0, .int (nI i), .int (nI 0)]) (rest := [.int (nI (rP S i 0))]) (hL_riverAt hX ((nI i)) ((nI 0))) dL_rivers_277 rfl (by decide) (by omega) rfl (fun w2 hX hT2 => ?_)
    rw [hS, lc_ra ho hi (Nat.zero_le _)]
    replace hT := hT2.trans hT
    refine ev_icmp_ne_f (tgt := 363) dL_rivers_280 (by decide) rfl ?_
    refine ev_aload_n dL_rivers_283 rfl ?_
    refine ev_iload dL_rivers_284 rfl ?_
    refine ev_iconst dL_rivers_286 ic2 ?_
    refine ev_q kL_276 (as := [.ref 0, .int (nI i), .int (nI 2)]) (rest := []) (hL_riverOf hX ((nI i)) ((nI 2))) dL_rivers_287 rfl (by decide) (by omega) rfl (fun w2 hX hT2 => ?_)
    rw [hS, lc_rv ho hi (by decide), show rvV S i 2 = nI (rP S i (rN S i)) from rfl]
    replace hT := hT2.trans hT
    refine ev_aload_n dL_rivers_290 rfl ?_
    refine ev_iload dL_rivers_291 rfl ?_
    refine ev_iload dL_rivers_293 rfl ?_
    refine ev_q kL_278 (as := [.ref 0, .int (nI i), .int (nI (rN S i))]) (rest := [.int (nI (rP S i (rN S i)))]) (hL_riverAt hX ((nI i)) ((nI (rN S i)))) dL_rivers_295 rfl (by decide) (by omega) rfl (fun w2 hX hT2 => ?_)
    rw [hS, lc_ra ho hi (Nat.le_refl _)]
    replace hT := hT2.trans hT
    refine ev_icmp_ne_f (tgt := 363) dL_rivers_298 (by decide) rfl ?_
    refine ev_aload_n dL_rivers_301 rfl ?_
    refine ev_iload dL_rivers_302 rfl ?_
    refine ev_iconst dL_rivers_304 ic4 ?_
    refine ev_q kL_276 (as := [.ref 0, .int (nI i), .int (nI 4)]) (rest := []) (hL_riverOf hX ((nI i)) ((nI 4))) dL_rivers_305 rfl (by decide) (by omega) rfl (fun w2 hX hT2 => ?_)
    rw [hS, lc_rv ho hi (by decide), show rvV S i 4 = nI (rN S i) * sM S 0 from rfl]
    replace hT := hT2.trans hT
    refine ev_iload dL_rivers_308 rfl ?_
    refine ev_aload_n dL_rivers_310 rfl ?_
    refine ev_iconst dL_rivers_311 ic4 ?_
    refine ev_qc kL_255 co0 (as := [.int (nI 4)]) (rest := [.int (nI (rN S i)), .int (nI (rN S i) * sM S 0)]) (fX11_account_y (G := G) hX (i := 4) (by omega)) dL_rivers_312 rfl (by decide) (by omega) rfl (fun w2 hX hT2 => ?_)
    rw [show acV A 4 = sM (aS A) 0 from rfl, hS]
    replace hT := hT2.trans hT
    refine ev_imul dL_rivers_315 ?_
    refine ev_icmp_ne_f (tgt := 363) dL_rivers_316 (by decide) rfl ?_
    refine ev_aload_n dL_rivers_319 rfl ?_
    refine ev_iload dL_rivers_320 rfl ?_
    refine ev_iload dL_rivers_322 rfl ?_
    refine ev_iconst dL_rivers_324 ic1 ?_
    refine ev_iadd dL_rivers_325 ?_
    refine ev_top (nI_add _ _) ?_
    refine ev_q kL_278 (as := [.ref 0, .int (nI i), .int (nI (rN S i + 1))]) (rest := []) (hL_riverAt hX ((nI i)) ((nI (rN S i + 1)))) dL_rivers_326 rfl (by decide) (by omega) rfl (fun w2 hX hT2 => ?_)
    rw [hS, lc_raE ho hi]
    replace hT := hT2.trans hT
    refine ev_bipush (v := (-15)) dL_rivers_329 (by decide) ?_
    refine ev_icmp_ne_f (tgt := 363) dL_rivers_331 (by decide) rfl ?_
    refine ev_aload_n dL_rivers_334 rfl ?_
    refine ev_iload dL_rivers_335 rfl ?_
    refine ev_iconst dL_rivers_337 icm1 ?_
    refine ev_q kL_278 (as := [.ref 0, .int (nI i), .int (-1)]) (rest := []) (hL_riverAt hX ((nI i)) ((-1))) dL_rivers_338 rfl (by decide) (by omega) rfl (fun w2 hX hT2 => ?_)
    rw [hS, lc_raM ho hi]
    replace hT := hT2.trans hT
    refine ev_bipush (v := (-15)) dL_rivers_341 (by decide) ?_
    refine ev_icmp_ne_f (tgt := 363) dL_rivers_343 (by decide) rfl ?_
    refine ev_aload_n dL_rivers_346 rfl ?_
    refine ev_iload dL_rivers_347 rfl ?_
    refine ev_bipush (v := nI 6) dL_rivers_349 (by decide) ?_
    refine ev_q kL_276 (as := [.ref 0, .int (nI i), .int (nI 6)]) (rest := []) (hL_riverOf hX ((nI i)) ((nI 6))) dL_rivers_351 rfl (by decide) (by omega) rfl (fun w2 hX hT2 => ?_)
    rw [hS, lc_rv6 ho hi]
    replace hT := hT2.trans hT
    refine ev_bipush (v := (-12)) dL_rivers_354 (by decide) ?_
    refine ev_icmp_ne_f (tgt := 363) dL_rivers_356 (by decide) rfl ?_
    refine ev_iconst dL_rivers_359 ic1 ?_
    refine ev_goto (tgt := 364) dL_rivers_360 (by decide) ?_
    refine ev_ist9 dL_rivers_364 (by decide) rfl ?_
    refine ev_iload dL_rivers_366 rfl ?_
    refine ev_if_ne_t (tgt := 373) dL_rivers_368 (by decide) (by decide) ?_
    refine ev_iinc4 dL_rivers_373 (nI_inc _) (by decide) rfl ?_
    refine ev_goto (tgt := 18) dL_rivers_376 (by decide) ?_
    exact ev_bu _ (by omega) (ih (i + 1) _ g _ _ _ _ _ _ _ (by omega) hX hT hg)
set_option maxRecDepth 8000 in
theorem gL_rivers_d {G : GX} {A : AS} {S : ST} {bb : Nat} (hS : aS A = S) (ho : okS S) {a z : Nat} {T2 : va_W} {v7 v8 v9 v10 v11 : Option Value} {Z : ZT}
    (K : ∀ (w : WS), aX A w → w.2 = T2 → Ev G 22 bb mL_rivers 436 [some (.ref 0), some (.int (nI (nR S))), some (dy a), some (dy z), some (.int (nI (bs0 (awr S) 9))), some (.int (nI (ls0 100000 (awr S) 9))), some (.int (nI (9 + 1))), v7, v8, v9, v10, v11] [] w Z) :
    ∀ (n k : Nat) (w : WS), k + n = 9 → aX A w → w.2 = T2 → Ev G 22 (40 * n + bb) mL_rivers 390 [some (.ref 0), some (.int (nI (nR S))), some (dy a), some (dy z), some (.int (nI (bs0 (awr S) k))), some (.int (nI (ls0 100000 (awr S) k))), some (.int (nI (k + 1))), v7, v8, v9, v10, v11] [] w Z := by
  intro n
  induction n with
  | zero =>
    intro k w hk hX hT
    obtain rfl : k = 9 := by omega
    refine ev_iload dL_rivers_390 rfl ?_
    refine ev_bipush (v := nI 10) dL_rivers_392 (by decide) ?_
    refine ev_icmp_ge_t (tgt := 436) dL_rivers_394 (by decide) (Int32.le_refl _) ?_
    exact ev_bu _ (by omega) (K w hX hT)
  | succ n ih =>
    intro k w hk hX hT
    have hl := awr_le ho (k + 1) (by omega)
    have hls : ls0 100000 (awr S) k ≤ 100000 := by
      unfold ls0
      split
      · omega
      · have := awr_le ho (bst (awr S) k) (by have := bst_le (awr S) k (by omega); omega)
        omega
    have at415 : ∀ (w : WS) (x : Nat), x = bs0 (awr S) (k + 1) → aX A w → w.2 = T2 → Ev G 22 (40 * n + 20 + bb) mL_rivers 415 [some (.ref 0), some (.int (nI (nR S))), some (dy a), some (dy z), some (.int (nI (bs0 (awr S) k))), some (.int (nI (ls0 100000 (awr S) k))), some (.int (nI (k + 1))), v7, v8, v9, v10, v11] [.int (nI x)] w Z := by
      intro w x hx hX hT
      subst hx
      refine ev_ist4 dL_rivers_415 (by decide) rfl ?_
      refine ev_iload dL_rivers_417 rfl ?_
      refine ev_aload_n dL_rivers_419 rfl ?_
      refine ev_iload dL_rivers_420 rfl ?_
      refine ev_callSP kL_285 (as := [.ref 0, .int (nI (k + 1))]) (rest := [.int (nI (ls0 100000 (awr S) k))]) (gL_wrong hX (m := k + 1) (by omega)) dL_rivers_422 rfl (by decide) (by omega) rfl (fun r0 w2 hp => ?_)
      obtain ⟨rfl, hX, hT2⟩ := hp
      rw [hS]
      replace hT := hT2.trans hT
      refine ev_min aL_159 dL_rivers_425 rfl ?_
      refine ev_top (y := nI (ls0 100000 (awr S) (k + 1))) (by rw [mn_ (by omega) (by omega), ls0_s (show awr S (k + 1) < 100000 from by have := awr_le ho (k + 1) (by omega); omega)]) ?_
      refine ev_ist5 dL_rivers_428 (by decide) rfl ?_
      refine ev_iinc6 dL_rivers_430 (nI_inc _) (by decide) rfl ?_
      refine ev_goto (tgt := 390) dL_rivers_433 (by decide) ?_
      exact ev_bu _ (by omega) (ih (k + 1) w2 (by omega) hX hT)
    refine ev_iload dL_rivers_390 rfl ?_
    refine ev_bipush (v := nI 10) dL_rivers_392 (by decide) ?_
    refine ev_icmp_ge_f (tgt := 436) dL_rivers_394 (by decide) (nI_ge (by omega) (by decide)) ?_
    refine ev_aload_n dL_rivers_397 rfl ?_
    refine ev_iload dL_rivers_398 rfl ?_
    refine ev_callSP kL_285 (as := [.ref 0, .int (nI (k + 1))]) (rest := []) (gL_wrong hX (m := k + 1) (by omega)) dL_rivers_400 rfl (by decide) (by omega) rfl (fun r0 w2 hp => ?_)
    obtain ⟨rfl, hX, hT2⟩ := hp
    rw [hS]
    replace hT := hT2.trans hT
    refine ev_iload dL_rivers_403 rfl ?_
    by_cases h : awr S (k + 1) < ls0 100000 (awr S) k
    · refine ev_icmp_ge_f (tgt := 413) dL_rivers_405 (by decide) (nI_ge h (by omega)) ?_
      refine ev_iload dL_rivers_408 rfl ?_
      refine ev_goto (tgt := 415) dL_rivers_410 (by decide) ?_
      exact ev_bu _ (by omega) (at415 w2 _ (by rw [bs0_s (show awr S (k + 1) < 100000 from by have := awr_le ho (k + 1) (by omega); omega), if_pos h]) hX hT)
    · refine ev_icmp_ge_t (tgt := 413) dL_rivers_405 (by decide) (Int32.not_lt.mp (nI_nlt (by omega) (by omega))) ?_
      refine ev_iload dL_rivers_413 rfl ?_
      exact ev_bu _ (by omega) (at415 w2 _ (by rw [bs0_s (show awr S (k + 1) < 100000 from by have := awr_le ho (k + 1) (by omega); omega), if_neg h]) hX hT)
set_option maxRecDepth 8000 in
theorem gL_rivers_e {G : GX} {A : AS} {S : ST} {bb : Nat} (hS : aS A = S) (ho : okS S) {a z : Nat} {T2 : va_W} {v5 : Int32} {v4 v10 v11 : Option Value} {Z : ZT}
    (K : ∀ (w : WS) (x : Int32) (v8 v9 : Option Value), aX A w → w.2 = T2 → Ev G 22 bb mL_rivers 545 [some (.ref 0), some (.int (nI (nR S))), some (dy a), some (dy z), v4, some (.int v5), some (.int x), some (.int (nI (nR S))), v8, v9, v10, v11] [] w Z) :
    ∀ (n p : Nat) (w : WS) (x : Int32) (v8 v9 : Option Value), p + n = nR S → ((p = 0 ∧ x = -1) ∨ ∃ c, c < nR S ∧ x = nI c ∧ rk (fV S) (gV S) (nR S) c + 1 = p) → aX A w → w.2 = T2 → Ev G 22 (5 * n + bb) mL_rivers 442 [some (.ref 0), some (.int (nI (nR S))), some (dy a), some (dy z), v4, some (.int v5), some (.int x), some (.int (nI (p))), v8, v9, v10, v11] [] w Z := by
  have hF := nF_V ho
  have hH := nF_g ho
  have hn4 := ho.2.1.1
  intro n
  induction n with
  | zero =>
    intro p w x v8 v9 hp hx hX hT
    obtain rfl : p = nR S := by omega
    refine ev_iload dL_rivers_442 rfl ?_
    refine ev_iload_n dL_rivers_444 rfl ?_
    refine ev_icmp_ge_t (tgt := 545) dL_rivers_445 (by decide) (Int32.le_refl _) ?_
    exact ev_bu _ (by omega) (K w x v8 v9 hX hT)
  | succ n ih =>
    intro p w x v8 v9 hp hx hX hT
    have hp4 : p < nR S := by omega
    obtain ⟨c, hc4, hpl, hrk⟩ := plc_y hn4 hF hH hp4
    have at514 : ∀ (w : WS) (v : Int32) (v9 : Option Value), aX A w → w.2 = T2 → ¬ v < 0 → (v ≠ 0 ∨ x ≤ nI c) → Ev G 22 (5 * n + bb) mL_rivers 514 [some (.ref 0), some (.int (nI (nR S))), some (dy a), some (dy z), v4, some (.int v5), some (.int x), some (.int (nI (p))), some (.int (nI (c))), v9, v10, v11] [.int v] w Z := by
      intro w v v9 hX hT h1 h2
      have at535 : Ev G 22 (5 * n + bb) mL_rivers 535 [some (.ref 0), some (.int (nI (nR S))), some (dy a), some (dy z), v4, some (.int v5), some (.int x), some (.int (nI (p))), some (.int (nI (c))), some (.int v), v10, v11] [] w Z := by
        refine ev_iload dL_rivers_535 rfl ?_
        refine ev_ist6 dL_rivers_537 (by decide) rfl ?_
        refine ev_iinc7 dL_rivers_539 (nI_inc _) (by decide) rfl ?_
        refine ev_goto (tgt := 442) dL_rivers_542 (by decide) ?_
        exact ih (p + 1) w (nI c) _ _ (by omega) (Or.inr ⟨c, hc4, rfl, by rw [hrk]⟩) hX hT
      refine ev_ist9 dL_rivers_514 (by decide) rfl ?_
      refine ev_iload dL_rivers_516 rfl ?_
      refine ev_if_lt_f (tgt := 533) dL_rivers_518 (by decide) h1 ?_
      refine ev_iload dL_rivers_521 rfl ?_
      by_cases h0 : v = 0
      · refine ev_if_ne_f (tgt := 535) dL_rivers_523 (by decide) h0 ?_
        have h3 : x ≤ nI c := by
          rcases h2 with h2 | h2
          · exact absurd h0 h2
          · exact h2
        refine ev_iload dL_rivers_526 rfl ?_
        refine ev_iload dL_rivers_528 rfl ?_
        refine ev_icmp_ge_t (tgt := 535) dL_rivers_530 (by decide) h3 ?_
        exact at535
      · refine ev_if_ne_t (tgt := 535) dL_rivers_523 (by decide) h0 ?_
        exact at535
    refine ev_iload dL_rivers_442 rfl ?_
    refine ev_iload_n dL_rivers_444 rfl ?_
    refine ev_icmp_ge_f (tgt := 545) dL_rivers_445 (by decide) (nI_ge hp4 (by omega)) ?_
    refine ev_aload_n dL_rivers_448 rfl ?_
    refine ev_iload dL_rivers_449 rfl ?_
    refine ev_q kL_288 (as := [.ref 0, .int (nI p)]) (rest := []) (hL_heaviest hX ((nI p))) dL_rivers_451 rfl (by decide) (by omega) rfl (fun w2 hX hT2 => ?_)
    rw [hS, lc_hv hpl]
    replace hT := hT2.trans hT
    refine ev_ist8 dL_rivers_454 (by decide) rfl ?_
    refine ev_iload dL_rivers_456 rfl ?_
    refine ev_if_ge_t (tgt := 465) dL_rivers_458 (by decide) (Int32.not_lt.mp (nI_pos (by omega))) ?_
    refine ev_iload dL_rivers_465 rfl ?_
    rcases hx with ⟨rfl, rfl⟩ | ⟨q, hq4, rfl, hq⟩
    · refine ev_if_ge_f (tgt := 474) dL_rivers_467 (by decide) (by decide) ?_
      refine ev_iconst dL_rivers_470 ic1 ?_
      refine ev_goto (tgt := 487) dL_rivers_471 (by decide) ?_
      refine ev_ist9 dL_rivers_487 (by decide) rfl ?_
      refine ev_iload dL_rivers_489 rfl ?_
      refine ev_if_eq_f (tgt := 499) dL_rivers_491 (by decide) (by decide) ?_
      refine ev_iload dL_rivers_494 rfl ?_
      refine ev_goto (tgt := 514) dL_rivers_496 (by decide) ?_
      exact ev_bu _ (by omega) (at514 _ _ _ hX hT (by decide) (Or.inl (by decide)))
    · refine ev_if_ge_t (tgt := 474) dL_rivers_467 (by decide) (Int32.not_lt.mp (nI_pos (by omega))) ?_
      have ha := (ahd_n hF hH hq4 hc4).mp (rk_tr hF hH hq4 hc4 (by omega))
      have hby := by_ok (hF q hq4).2 (hF c hc4).2 (hH q hq4).2 (hH c hc4).2 ha
      refine ev_aload_n dL_rivers_474 rfl ?_
      refine ev_iload dL_rivers_475 rfl ?_
      refine ev_q kL_280 (as := [.ref 0, .int (nI q)]) (rest := []) (hL_weight hX ((nI q))) dL_rivers_477 rfl (by decide) (by omega) rfl (fun w2 hX hT2 => ?_)
      rw [hS, lc_we ho hq4]
      replace hT := hT2.trans hT
      refine ev_aload_n dL_rivers_480 rfl ?_
      refine ev_iload dL_rivers_481 rfl ?_
      refine ev_q kL_280 (as := [.ref 0, .int (nI c)]) (rest := [.int (nI (wgt S q))]) (hL_weight hX ((nI c))) dL_rivers_483 rfl (by decide) (by omega) rfl (fun w2 hX hT2 => ?_)
      rw [hS, lc_we ho hc4]
      replace hT := hT2.trans hT
      refine ev_isub dL_rivers_486 ?_
      refine ev_ist9 dL_rivers_487 (by decide) rfl ?_
      refine ev_iload dL_rivers_489 rfl ?_
      rcases hby with ⟨h1, h2⟩ | ⟨h1, h2, h3⟩
      · refine ev_if_eq_f (tgt := 499) dL_rivers_491 (by decide) h1 ?_
        refine ev_iload dL_rivers_494 rfl ?_
        refine ev_goto (tgt := 514) dL_rivers_496 (by decide) ?_
        exact ev_bu _ (by omega) (at514 _ _ _ hX hT h2 (Or.inl h1))
      · refine ev_if_eq_t (tgt := 499) dL_rivers_491 (by decide) h1 ?_
        refine ev_aload_n dL_rivers_499 rfl ?_
        refine ev_iload dL_rivers_500 rfl ?_
        refine ev_iconst dL_rivers_502 ic1 ?_
        refine ev_q kL_276 (as := [.ref 0, .int (nI q), .int (nI 1)]) (rest := []) (hL_riverOf hX ((nI q)) ((nI 1))) dL_rivers_503 rfl (by decide) (by omega) rfl (fun w2 hX hT2 => ?_)
        rw [hS, lc_rv ho hq4 (by decide), show rvV S q 1 = nI (rN S q) from rfl]
        replace hT := hT2.trans hT
        refine ev_aload_n dL_rivers_506 rfl ?_
        refine ev_iload dL_rivers_507 rfl ?_
        refine ev_iconst dL_rivers_509 ic1 ?_
        refine ev_q kL_276 (as := [.ref 0, .int (nI c), .int (nI 1)]) (rest := [.int (nI (rN S q))]) (hL_riverOf hX ((nI c)) ((nI 1))) dL_rivers_510 rfl (by decide) (by omega) rfl (fun w2 hX hT2 => ?_)
        rw [hS, lc_rv ho hc4 (by decide), show rvV S c 1 = nI (rN S c) from rfl]
        replace hT := hT2.trans hT
        refine ev_isub dL_rivers_513 ?_
        exact ev_bu _ (by omega) (at514 _ _ _ hX hT h2 (h3.imp (fun h => h) (fun h => Int32.not_lt.mp (nI_nlt (Nat.not_lt.mp h) (by omega)))))
set_option maxRecDepth 8000 in
theorem gL_rivers {G : GX} {w : WS} {A : AS} (hX : aX A w) : BigP G 22 900 mL_rivers [.ref 0] w (fun r w2 => r = some (.int (nI 1)) ∧ aX A w2 ∧ w2.2 = w.2) := by
  refine bp_of (by decide +kernel) rfl (Nat.le_of_ble_eq_true rfl) ?_
  show Ev G 22 900 mL_rivers 0 [some (.ref 0), none, none, none, none, none, none, none, none, none, none, none] [] w _
  have ho := hX.1.2
  have hn4 := ho.2.1.1
  have hpn := plc_n hn4 (nF_V ho) (nF_g ho)
  obtain ⟨mm, h1, h9, h0⟩ := ho.2.2.2
  have hq : qWr (aS A) = nI (awr (aS A) mm) := by unfold qWr; rw [h0, oN_nI (by omega)]
  have hT : w.2 = w.2 := rfl
  refine ev_aload_n dL_rivers_0 rfl ?_
  refine ev_iconst dL_rivers_1 ic1 ?_
  refine ev_qc kL_255 co0 (as := [.int (nI 1)]) (rest := []) (fX11_account_y (G := G) hX (i := 1) (by omega)) dL_rivers_2 rfl (by decide) (by omega) rfl (fun w2 hX hT2 => ?_)
  rw [show acV A 1 = nI (nR (aS A)) from rfl]
  replace hT := hT2.trans hT
  refine ev_ist1 dL_rivers_5 (by decide) rfl ?_
  refine ev_aload_n dL_rivers_6 rfl ?_
  refine ev_callSP kL_227 (as := [.ref 0]) (rest := []) (gL_cells hX) dL_rivers_7 rfl (by decide) (by decide) rfl (fun r0 w1 hp => ?_)
  obtain ⟨a, rfl, hX, hT2⟩ := hp
  replace hT : w1.2 = w.2 ++ [arI G a 64 (cE (aS A))] := by rw [hT2, hT]; rfl
  refine ev_ast2 dL_rivers_10 (by decide) rfl ?_
  refine ev_iconst dL_rivers_11 ic4 ?_
  refine ev_newaT (at_ := .int) (t := 0) (zz := .inl (fun _ => 0)) ac_i rfl rfl ra_i (fun _ => rfl) (by decide) (by decide) (by decide) dL_rivers_12 (fun z => ?_)
  refine ev_ast3 dL_rivers_14 (by decide) rfl ?_
  refine ev_iconst dL_rivers_15 ic0 ?_
  refine ev_ist4 dL_rivers_16 (by decide) rfl ?_
  have hX : aX A (w1.1, w1.2 ++ [arI G z 4 (fun _ => 0)]) := aX_of rfl hX
  have hT : (w1.1, w1.2 ++ [arI G z 4 (fun _ => 0)]).2 = w.2 ++ [arI G a 64 (cE (aS A)), arI G z 4 (fun _ => 0)] := by rw [hT]; simp
  refine ev_bu (60 * nR (aS A) + 460) (by omega) (gL_rivers_c (S := aS A) rfl ho (fun w1 g v5 v6 v7 v8 v9 v10 v11 hX hT hg => ?_) (nR (aS A)) 0 _ _ _ _ _ _ _ _ _ (by omega) hX hT (fun r hr => rfl))
  refine ev_iconst dL_rivers_379 ic0 ?_
  refine ev_ist4 dL_rivers_380 (by decide) rfl ?_
  refine ev_ldcwi ctL_284 dL_rivers_382 ?_
  refine ev_ist5 dL_rivers_385 (by decide) rfl ?_
  refine ev_iconst dL_rivers_387 ic1 ?_
  refine ev_ist6 dL_rivers_388 (by decide) rfl ?_
  refine ev_bu (40 * 9 + 100) (by decide) (gL_rivers_d (S := aS A) rfl ho (fun w1 hX hT => ?_) 9 0 w1 rfl hX hT)
  refine ev_iconst dL_rivers_436 icm1 ?_
  refine ev_ist6 dL_rivers_437 (by decide) rfl ?_
  refine ev_iconst dL_rivers_439 ic0 ?_
  refine ev_ist7 dL_rivers_440 (by decide) rfl ?_
  refine ev_bu (5 * nR (aS A) + 60) (by omega) (gL_rivers_e (S := aS A) rfl ho (fun w1 x v8 v9 hX hT => ?_) (nR (aS A)) 0 w1 (-1) v8 v9 (by omega) (Or.inl ⟨rfl, rfl⟩) hX hT)
  have fin : ∀ (w1 : WS) (v7 : Option Value), aX A w1 → w1.2 = w.2 ++ [arI G a 64 (cE (aS A)), arI G z 4 g] → Ev G 22 20 mL_rivers 659 [some (.ref 0), some (.int (nI (nR (aS A)))), some (dy a), some (dy z), some (.int (nI (bs0 (awr (aS A)) 9))), some (.int (nI (ls0 100000 (awr (aS A)) 9))), some (.int x), v7, v8, v9, v10, v11] [] w1 (zP_ G (fun r w2 => r = some (.int (nI 1)) ∧ aX A w2 ∧ w2.2 = w.2)) := by
    intro w1 v7 hX hT
    refine ev_aload_n dL_rivers_659 rfl ?_
    refine ev_iload_n dL_rivers_660 rfl ?_
    refine ev_q kL_288 (as := [.ref 0, .int (nI (nR (aS A)))]) (rest := []) (hL_heaviest hX ((nI (nR (aS A))))) dL_rivers_661 rfl (by decide) (by omega) rfl (fun w2 hX hT2 => ?_)
    rw [lc_hvn hpn]
    replace hT := hT2.trans hT
    refine ev_bipush (v := (-15)) dL_rivers_664 (by decide) ?_
    refine ev_icmp_ne_f (tgt := 716) dL_rivers_666 (by decide) rfl ?_
    refine ev_aload_n dL_rivers_669 rfl ?_
    refine ev_iload_n dL_rivers_670 rfl ?_
    refine ev_q kL_280 (as := [.ref 0, .int (nI (nR (aS A)))]) (rest := []) (hL_weight hX ((nI (nR (aS A))))) dL_rivers_671 rfl (by decide) (by omega) rfl (fun w2 hX hT2 => ?_)
    rw [lc_wen ho]
    replace hT := hT2.trans hT
    refine ev_bipush (v := (-11)) dL_rivers_674 (by decide) ?_
    refine ev_icmp_ne_f (tgt := 716) dL_rivers_676 (by decide) rfl ?_
    refine ev_aload_n dL_rivers_679 rfl ?_
    refine ev_iload_n dL_rivers_680 rfl ?_
    refine ev_q kL_282 (as := [.ref 0, .int (nI (nR (aS A)))]) (rest := []) (hL_weightAgain hX ((nI (nR (aS A))))) dL_rivers_681 rfl (by decide) (by omega) rfl (fun w2 hX hT2 => ?_)
    rw [lc_wen ho]
    replace hT := hT2.trans hT
    refine ev_bipush (v := (-11)) dL_rivers_684 (by decide) ?_
    refine ev_icmp_ne_f (tgt := 716) dL_rivers_686 (by decide) rfl ?_
    refine ev_aload_n dL_rivers_689 rfl ?_
    refine ev_iload_n dL_rivers_690 rfl ?_
    refine ev_bipush (v := nI 6) dL_rivers_691 (by decide) ?_
    refine ev_q kL_276 (as := [.ref 0, .int (nI (nR (aS A))), .int (nI 6)]) (rest := []) (hL_riverOf hX ((nI (nR (aS A)))) ((nI 6))) dL_rivers_693 rfl (by decide) (by omega) rfl (fun w2 hX hT2 => ?_)
    rw [lc_rvn ho]
    replace hT := hT2.trans hT
    refine ev_bipush (v := (-11)) dL_rivers_696 (by decide) ?_
    refine ev_icmp_ne_f (tgt := 716) dL_rivers_698 (by decide) rfl ?_
    refine ev_aload_n dL_rivers_701 rfl ?_
    refine ev_iload_n dL_rivers_702 rfl ?_
    refine ev_iconst dL_rivers_703 ic0 ?_
    refine ev_q kL_278 (as := [.ref 0, .int (nI (nR (aS A))), .int (nI 0)]) (rest := []) (hL_riverAt hX ((nI (nR (aS A)))) ((nI 0))) dL_rivers_704 rfl (by decide) (by omega) rfl (fun w2 hX hT2 => ?_)
    rw [lc_ran ho]
    replace hT := hT2.trans hT
    refine ev_bipush (v := (-11)) dL_rivers_707 (by decide) ?_
    refine ev_icmp_ne_f (tgt := 716) dL_rivers_709 (by decide) rfl ?_
    refine ev_iconst dL_rivers_712 ic1 ?_
    refine ev_goto (tgt := 717) dL_rivers_713 (by decide) ?_
    refine ev_tl (T' := w.2) (by rw [hT]; exact List.sublist_append_left _ _) ?_
    exact ev_iretP dL_rivers_717 rfl (by decide) ⟨rfl, aX_of rfl hX, rfl⟩
  refine ev_aload_n dL_rivers_545 rfl ?_
  refine ev_iconst dL_rivers_546 ic0 ?_
  refine ev_iconst dL_rivers_547 ic5 ?_
  refine ev_q kL_237 (as := [.ref 0, .int (nI 0), .int (nI 5)]) (rest := []) (hL_realmOf hX ((nI 0)) ((nI 5))) dL_rivers_548 rfl (by decide) (by omega) rfl (fun w2 hX hT2 => ?_)
  rw [lc_ro (by decide) (by decide), show roV (aS A) 0 5 = nI (thr (aS A) (nI 0)) from rfl]
  replace hT := hT2.trans hT
  refine ev_aload_n dL_rivers_551 rfl ?_
  refine ev_iconst dL_rivers_552 ic0 ?_
  refine ev_ialoadT (w := w2) (t := 0) (i := w.2.length + 1) (f := g) (by rw [hT]; exact tl1) dL_rivers_553 rfl (show 0 < 4 by decide) (by decide) ?_
  refine ev_top (hg 0 (by decide)) ?_
  refine ev_icmp_ne_f (tgt := 597) dL_rivers_554 (by decide) rfl ?_
  refine ev_aload_n dL_rivers_557 rfl ?_
  refine ev_iconst dL_rivers_558 ic1 ?_
  refine ev_iconst dL_rivers_559 ic5 ?_
  refine ev_q kL_237 (as := [.ref 0, .int (nI 1), .int (nI 5)]) (rest := []) (hL_realmOf hX ((nI 1)) ((nI 5))) dL_rivers_560 rfl (by decide) (by omega) rfl (fun w2 hX hT2 => ?_)
  rw [lc_ro (by decide) (by decide), show roV (aS A) 1 5 = nI (thr (aS A) (nI 1)) from rfl]
  replace hT := hT2.trans hT
  refine ev_aload_n dL_rivers_563 rfl ?_
  refine ev_iconst dL_rivers_564 ic1 ?_
  refine ev_ialoadT (w := w2) (t := 0) (i := w.2.length + 1) (f := g) (by rw [hT]; exact tl1) dL_rivers_565 rfl (show 1 < 4 by decide) (by decide) ?_
  refine ev_top (hg 1 (by decide)) ?_
  refine ev_icmp_ne_f (tgt := 597) dL_rivers_566 (by decide) rfl ?_
  refine ev_aload_n dL_rivers_569 rfl ?_
  refine ev_iconst dL_rivers_570 ic2 ?_
  refine ev_iconst dL_rivers_571 ic5 ?_
  refine ev_q kL_237 (as := [.ref 0, .int (nI 2), .int (nI 5)]) (rest := []) (hL_realmOf hX ((nI 2)) ((nI 5))) dL_rivers_572 rfl (by decide) (by omega) rfl (fun w2 hX hT2 => ?_)
  rw [lc_ro (by decide) (by decide), show roV (aS A) 2 5 = nI (thr (aS A) (nI 2)) from rfl]
  replace hT := hT2.trans hT
  refine ev_aload_n dL_rivers_575 rfl ?_
  refine ev_iconst dL_rivers_576 ic2 ?_
  refine ev_ialoadT (w := w2) (t := 0) (i := w.2.length + 1) (f := g) (by rw [hT]; exact tl1) dL_rivers_577 rfl (show 2 < 4 by decide) (by decide) ?_
  refine ev_top (hg 2 (by decide)) ?_
  refine ev_icmp_ne_f (tgt := 597) dL_rivers_578 (by decide) rfl ?_
  refine ev_aload_n dL_rivers_581 rfl ?_
  refine ev_iconst dL_rivers_582 ic3 ?_
  refine ev_iconst dL_rivers_583 ic5 ?_
  refine ev_q kL_237 (as := [.ref 0, .int (nI 3), .int (nI 5)]) (rest := []) (hL_realmOf hX ((nI 3)) ((nI 5))) dL_rivers_584 rfl (by decide) (by omega) rfl (fun w2 hX hT2 => ?_)
  rw [lc_ro (by decide) (by decide), show roV (aS A) 3 5 = nI (thr (aS A) (nI 3)) from rfl]
  replace hT := hT2.trans hT
  refine ev_aload_n dL_rivers_587 rfl ?_
  refine ev_iconst dL_rivers_588 ic3 ?_
  refine ev_ialoadT (w := w2) (t := 0) (i := w.2.length + 1) (f := g) (by rw [hT]; exact tl1) dL_rivers_589 rfl (show 3 < 4 by decide) (by decide) ?_
  refine ev_top (hg 3 (by decide)) ?_
  refine ev_icmp_ne_f (tgt := 597) dL_rivers_590 (by decide) rfl ?_
  refine ev_iconst dL_rivers_593 ic1 ?_
  refine ev_goto (tgt := 598) dL_rivers_594 (by decide) ?_
  refine ev_ist7 dL_rivers_598 (by decide) rfl ?_
  refine ev_iload dL_rivers_600 rfl ?_
  refine ev_if_eq_f (tgt := 716) dL_rivers_602 (by decide) (by decide) ?_
  refine ev_aload_n dL_rivers_605 rfl ?_
  refine ev_callV kL_290 co0 (as := []) (rest := []) (qX11_wrong_y hX.1) dL_rivers_606 rfl (by decide) (by omega) rfl ?_
  refine ev_aload_n dL_rivers_609 rfl ?_
  refine ev_aload_n dL_rivers_610 rfl ?_
  refine ev_iconst dL_rivers_611 ic4 ?_
  refine ev_qc kL_255 co0 (as := [.int (nI 4)]) (rest := [.ref 0, .int (qWr (aS A))]) (fX11_account_y (G := G) hX (i := 4) (by omega)) dL_rivers_612 rfl (by decide) (by omega) rfl (fun w2 hX hT2 => ?_)
  rw [show acV A 4 = sM (aS A) 0 from rfl, h0]
  replace hT := hT2.trans hT
  refine ev_callSP kL_285 (as := [.ref 0, .int (nI mm)]) (rest := [.int (qWr (aS A))]) (gL_wrong hX (m := mm) h9) dL_rivers_615 rfl (by decide) (by omega) rfl (fun r0 w2 hp => ?_)
  obtain ⟨rfl, hX, hT2⟩ := hp
  replace hT := hT2.trans hT
  refine ev_icmp_ne_f (tgt := 716) dL_rivers_618 (by decide) hq ?_
  refine ev_aload_n dL_rivers_621 rfl ?_
  refine ev_q kL_292 (as := [.ref 0]) (rest := []) (hL_bestScale hX) dL_rivers_622 rfl (by decide) (by omega) rfl (fun w2 hX hT2 => ?_)
  rw [lc_bs]
  replace hT := hT2.trans hT
  refine ev_iload_n dL_rivers_625 rfl ?_
  by_cases hz : nR (aS A) = 0
  · refine ev_if_ne_f (tgt := 634) dL_rivers_626 (by decide) (by rw [hz]; rfl) ?_
    refine ev_bipush (v := (-15)) dL_rivers_629 (by decide) ?_
    refine ev_goto (tgt := 636) dL_rivers_631 (by decide) ?_
    refine ev_icmp_ne_f (tgt := 716) dL_rivers_636 (by decide) (if_pos hz) ?_
    refine ev_iload_n dL_rivers_639 rfl ?_
    refine ev_if_eq_t (tgt := 659) dL_rivers_640 (by decide) (by rw [hz]; rfl) ?_
    exact ev_bu _ (by omega) (fin _ _ hX hT)
  · have hnz : nI (nR (aS A)) ≠ 0 := fun q => hz ((nI_eq (b := 0) (by omega) (by decide)).mp q)
    refine ev_if_ne_t (tgt := 634) dL_rivers_626 (by decide) hnz ?_
    refine ev_iload dL_rivers_634 rfl ?_
    refine ev_icmp_ne_f (tgt := 716) dL_rivers_636 (by decide) ((if_neg hz).trans (congrArg nI (bs0_p (n := 8)).symm)) ?_
    refine ev_iload_n dL_rivers_639 rfl ?_
    refine ev_if_eq_f (tgt := 659) dL_rivers_640 (by decide) hnz ?_
    refine ev_aload_n dL_rivers_643 rfl ?_
    refine ev_callV kL_294 co0 (as := []) (rest := []) (qX11_meanWrong_y hX.1 hz) dL_rivers_644 rfl (by decide) (by omega) rfl ?_
    refine ev_aload_n dL_rivers_647 rfl ?_
    refine ev_callV kL_290 co0 (as := []) (rest := [.double (mwD (aS A))]) (qX11_wrong_y hX.1) dL_rivers_648 rfl (by decide) (by omega) rfl ?_
    refine ev_i2d dL_rivers_651 ?_
    refine ev_iload_n dL_rivers_652 rfl ?_
    refine ev_i2d dL_rivers_653 ?_
    refine ev_ddiv dL_rivers_654 (mw_ok ho hz) ?_
    refine ev_dcmp dL_rivers_655 ?_
    refine ev_top (y := 0) (mw_cm ho hz) ?_
    refine ev_if_ne_f (tgt := 716) dL_rivers_656 (by decide) rfl ?_
    exact ev_bu _ (by omega) (fin _ _ hX hT)
