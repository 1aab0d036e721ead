/-! the law's judgement of undoing -/
theorem vL_s {f : Nat → Int64} {k : Nat} {x : Int64} : vp_updL f k x k = x := by
  unfold vp_updL
  rw [if_pos rfl]
theorem vL_n {f : Nat → Int64} {k j : Nat} {x : Int64} (h : j ≠ k) : vp_updL f k x j = f j := by
  unfold vp_updL
  rw [if_neg h]
theorem lg_0 (x : Int64) : lg_cmp x x = 0 := by
  unfold lg_cmp
  rw [if_neg (fun h => absurd h Int64.lt_irrefl), if_pos rfl]
def arL (G : GX) (a n : Nat) (f : Nat → Int64) : Nat × va_E := (a, .inl (gC G 3, n, .inr (.inl f)))
theorem ixN_lt {n : Nat} (hn : n < 2 ^ 31) {x : Int32} {j : Nat} (h : ixN n x = some j) : j < n := by
  rcases ixN_or n hn x with ⟨-, h2⟩ | ⟨i, hi, -, h2⟩
  · rw [h2] at h
    cases h
  · rw [h2] at h
    cases h
    exact hi
/-- what a change leaves: it was made and can be undone, or all is as it was -/
def stpO (A A2 : AS) (v : Int32) (q : Bool) : Prop := aN A2 = 0 ∧ ((aS A2 = aS A ∧ aH A2 = aH A ∧ ¬ 0 ≤ v ∧ (v = -1 → q = false)) ∨ (aH A2 = hPush (aH A) (aS A) ∧ (0 ≤ v ∨ (v = -1 ∧ q = true))))
abbrev bad (v : Int32) : Prop := ¬ 0 ≤ v ∧ v ≠ -1
theorem stpO_n {A A2 : AS} {v : Int32} {q : Bool} (h1 : aN A2 = 0) (h2 : aS A2 = aS A) (h3 : aH A2 = aH A) (h4 : bad v) : stpO A A2 v q := ⟨h1, Or.inl ⟨h2, h3, h4.1, fun e => absurd e h4.2⟩⟩
theorem stpO_c {A0 A : AS} {k : Nat} {c : Cmd} {cs : List Int32} {q : Bool} (e1 : aS A = aS A0) (e2 : aH A = aH A0) (hN : aN A = 0) (hk : k ≠ 0) (hc : bad (cs.getD (k - 1) 0)) (hy : grC (aS A) c = 0 → 0 ≤ crt (aS A) c ∨ (crt (aS A) c = -1 ∧ q = true)) : stpO A0 (spCh A k c).2 (lc_ cs (spCh A k c).1) q := by
  by_cases hg : grC (aS A) c = 0
  · rw [ch_ye hg]
    refine ⟨hN, Or.inr ⟨?_, ?_⟩⟩
    · show hPush (aH A) (aS A) = _
      rw [e1, e2]
    · exact hy hg
  · rw [ch_no hg]
    have e : lc_ cs (k, 0) = cs.getD (k - 1) 0 := by
      unfold lc_
      rw [if_neg hk]
    show stpO A0 _ (lc_ cs (k, 0)) q
    rw [e]
    exact stpO_n hN e1 e2 hc
theorem nI_ge0 {k : Nat} (h : k < 2 ^ 31) : (0 : Int32) ≤ nI k := Int32.not_lt.mp (nI_pos h)
section
variable {A : AS}
theorem b11 : bad (-11) := by decide +kernel
theorem b12 : bad (-12) := by decide +kernel
theorem b13 : bad (-13) := by decide +kernel
theorem b2 : bad (-2) := by decide +kernel
theorem b3 : bad (-3) := by decide +kernel
theorem so_paint (hN : aN A = 0) (ho : okS (aS A)) (x y : Int32) : stpO A (spPaint A x y).2 (lc_ [(-11), (-12), (-14)] (spPaint A x y).1) true := by
  unfold spPaint
  cases e : ixN 64 x with
  | none => exact stpO_n hN rfl rfl b11
  | some c =>
    dsimp only
    split
    · refine stpO_c rfl rfl hN (by decide) (by decide +kernel) (fun _ => ?_)
      rcases ho.1 c (ixN_lt (by decide) e) with h | ⟨k, hk, h⟩
      · exact Or.inr ⟨h, rfl⟩
      · exact Or.inl (by show 0 ≤ sO (aS A) c; rw [h]; exact nI_ge0 (by omega))
    · exact stpO_n hN rfl rfl b12
theorem so_shave (hN : aN A = 0) (ho : okS (aS A)) (x y : Int32) (q : Bool) : stpO A (spShave A x y).2 (lc_ [(-11), (-14)] (spShave A x y).1) q := by
  unfold spShave
  cases e : ixN 64 x with
  | none => exact stpO_n hN rfl rfl b11
  | some c =>
    dsimp only
    cases e2 : ixN 4 y with
    | none => exact stpO_n hN rfl rfl b11
    | some r =>
      refine stpO_c rfl rfl hN (by decide) (by decide +kernel) (fun hg => Or.inl ?_)
      have hg : (if shS (aS A) c (nI r) = 0 ∨ shS (aS A) c (nI r) = 1 then shS (aS A) c (nI r) else 2) = 0 := hg
      have h0 : shS (aS A) c (nI r) = 0 := by
        by_cases z : shS (aS A) c (nI r) = 0 ∨ shS (aS A) c (nI r) = 1
        · rw [if_pos z] at hg; exact hg
        · rw [if_neg z] at hg; exact absurd hg (by decide)
      rcases ho.1 c (ixN_lt (by decide) e) with h | ⟨k, hk, h⟩
      · exfalso
        unfold shS at h0
        rw [h] at h0
        by_cases z : (-1 : Int32) = nI r
        · rw [if_pos z] at h0; exact absurd h0 (by decide)
        · rw [if_neg z, if_pos rfl] at h0; exact absurd h0 (by decide)
      · show 0 ≤ sO (aS A) c
        rw [h]
        exact nI_ge0 (by omega)
theorem so_scale (hN : aN A = 0) (ho : okS (aS A)) (x : Int32) (q : Bool) : stpO A (spScale A x).2 (lc_ [(-12), (-14)] (spScale A x).1) q := by
  unfold spScale
  cases e : ixN 10 x with
  | none => exact stpO_n hN rfl rfl b12
  | some k =>
    dsimp only
    split
    · exact stpO_n hN rfl rfl b12
    · refine stpO_c rfl rfl hN (by decide) (by decide +kernel) (fun _ => Or.inl ?_)
      obtain ⟨mm, h1, h9, h0⟩ := ho.2.2.2
      show 0 ≤ sM (aS A) 0
      rw [h0]
      exact nI_ge0 (by omega)
theorem so_drop (hN : aN A = 0) (ho : okS (aS A)) (x : Int32) (q : Bool) : stpO A (spDrop A x).2 (lc_ [(-11)] (spDrop A x).1) q := by
  have hn := nR_lt ho
  unfold spDrop
  cases e : ixN (nR (aS A)) x with
  | none => exact stpO_n hN rfl rfl b11
  | some i =>
    dsimp only
    have hg : grC (aS A) (.inr (.inr (.inr (.inr (.inl i))))) = 0 := rfl
    rw [ch_ye hg]
    exact ⟨hN, Or.inr ⟨rfl, Or.inl (by show 0 ≤ nI (nR (aS A) - 1); exact nI_ge0 (by omega))⟩⟩
theorem so_scare (hN : aN A = 0) (ho : okS (aS A)) (x : Int32) (q : Bool) : stpO A (spScare A x).2 (lc_ [(-11)] (spScare A x).1) q := by
  unfold spScare
  cases e : ixN (nD (aS A)) x with
  | none => exact stpO_n hN rfl rfl b11
  | some i =>
    dsimp only
    have hg : grC (aS A) (.inr (.inr (.inr (.inr (.inr (.inr i)))))) = 0 := rfl
    have hp := (ho.2.2.1.2.1 i (ixN_lt (nD_lt ho) e)).2.2.1
    rw [ch_ye hg]
    exact ⟨hN, Or.inr ⟨rfl, Or.inl (by show 0 ≤ nI (dP (aS A) i); exact nI_ge0 (by omega))⟩⟩
theorem so_dragon (hN : aN A = 0) (ho : okS (aS A)) (x y : Int32) (q : Bool) : stpO A (spDragon A x y).2 (lc_ [(-11), (-12), (-14)] (spDragon A x y).1) q := by
  have hn := nD_lt ho
  unfold spDragon
  cases e : ixN 64 x with
  | none => exact stpO_n hN rfl rfl b11
  | some c =>
    dsimp only
    cases e2 : ixN 51 y with
    | none => exact stpO_n hN rfl rfl b12
    | some p =>
      dsimp only
      split
      · exact stpO_n hN rfl rfl b12
      · exact stpO_c rfl rfl hN (by decide) (by decide +kernel) (fun _ => Or.inl (by show 0 ≤ nI (nD (aS A)); exact nI_ge0 (by omega)))
theorem so_river (ho : okS (aS A)) (n : Nat) (t : Nat → Nat) (x y : Int32) (q : Bool) : stpO A (spRiver (mkA (aS A) (aV A) (aH A) n t (aL A) (aK A) (aE A)) x y).2 (lc_ [(-11), (-12), (-13), (-14)] (spRiver (mkA (aS A) (aV A) (aH A) n t (aL A) (aK A) (aE A)) x y).1) q := by
  have hn := nR_lt ho
  unfold spRiver
  cases e : ixN 64 x with
  | none => exact stpO_n rfl rfl rfl b11
  | some c =>
    dsimp only
    cases e2 : ixN 100 y with
    | none => exact stpO_n rfl rfl rfl b12
    | some p =>
      dsimp only
      split
      · exact stpO_c rfl rfl rfl (by decide) (by decide +kernel) (fun _ => Or.inl (by show 0 ≤ nI (nR (aS A)); exact nI_ge0 (by omega)))
      · exact stpO_n rfl rfl rfl b13
theorem cms_l60 {n : Nat} {t : Nat → Nat} : ∀ {f p : Nat}, (cms n t f p).length ≤ f := by
  intro f
  induction f with
  | zero => intro p; exact Nat.le_refl _
  | succ f ih =>
    intro p
    unfold cms
    split
    · exact Nat.zero_le _
    · split
      · exact Nat.succ_le_succ (Nat.zero_le _)
      · exact Nat.succ_le_succ ih
theorem rnC_v : ∀ {Ls : List Cmd} {S : ST} {k : Nat}, (rnC S k Ls).2.2 = none → (rnC S k Ls).1 = -1 ∨ ∃ j, j ≤ k + Ls.length ∧ (rnC S k Ls).1 = nI j := by
  intro Ls
  induction Ls with
  | nil => intro S k _; exact Or.inr ⟨k, Nat.le_refl _, rfl⟩
  | cons c Ls ih =>
    intro S k h
    unfold rnC at h ⊢
    by_cases e1 : thC S c = false
    · rw [if_pos e1]
      exact Or.inl rfl
    · rw [if_neg e1] at h ⊢
      by_cases e2 : grC S c ≠ 0
      · rw [if_pos e2] at h
        cases h
      · rw [if_neg e2] at h ⊢
        rcases ih h with h2 | ⟨j, hj, h2⟩
        · exact Or.inl h2
        · exact Or.inr ⟨j, by rw [List.length_cons]; omega, h2⟩
theorem so_read {B : AS} (e1 : aS B = aS A) (e2 : aH B = aH A) : stpO A (spRead B).2 (lc_ [(-1), (-2), (-3)] (spRead B).1) false := by
  unfold spRead
  cases e : fErr (aN B) (aT B) 60 0 with
  | some p => exact ⟨rfl, Or.inl ⟨e1, e2, (show ¬ (0 : Int32) ≤ -1 by decide), fun _ => rfl⟩⟩
  | none =>
    dsimp only
    cases e3 : (rnC (aS B) 0 (cms (aN B) (aT B) 60 0)).2.2 with
    | some K => exact stpO_n rfl e1 e2 b3
    | none =>
      dsimp only
      by_cases e4 : (rnC (aS B) 0 (cms (aN B) (aT B) 60 0)).1 = -1
      · rw [if_pos e4]
        exact stpO_n rfl e1 e2 b2
      · rw [if_neg e4]
        rcases rnC_v e3 with h | ⟨j, hj, h⟩
        · exact absurd h e4
        · have hl := cms_l60 (n := aN B) (t := aT B) (f := 60) (p := 0)
          refine ⟨rfl, Or.inr ⟨?_, Or.inl ?_⟩⟩
          · show hPush (aH B) (aS B) = hPush (aH A) (aS A)
            rw [e1, e2]
          · show 0 ≤ (rnC (aS B) 0 (cms (aN B) (aT B) 60 0)).1
            rw [h]
            exact nI_ge0 (by omega)
end
theorem push_ {Pq Ls : List ST} {S : ST} (h1 : Ls.length ≤ 5) (h2 : (Pq ++ Ls).length ≤ 6) : ∃ P2, hPush (Pq ++ Ls) S = P2 ++ (Ls ++ [S]) := by
  unfold hPush
  by_cases h : (Pq ++ Ls).length < 6
  · rw [if_pos h]
    exact ⟨Pq, List.append_assoc _ _ _⟩
  · rw [if_neg h]
    rw [List.length_append] at h h2
    cases Pq with
    | nil =>
      simp only [List.length_nil] at h
      omega
    | cons a Pq => exact ⟨Pq, List.append_assoc _ _ _⟩
section
variable {G : GX} {d b : Nat} {M : MT} {pc : Nat} {ls : List (Option Value)} {st : List Value} {Z : ZT} {x : Nat → Nat → Int32} {T : va_W} {a : Nat} {L : List Nat}
/-- a text beside the one that is being built -/
theorem ev_sbsub {w0 w : WS} (hb : sbI G x T a L w0) {T2 : va_W} (hw : w = (x, w0.2 ++ T2)) {s : Nat} {L2 : List Nat} (hs : ∀ U, (∀ q ∈ T2, q ∈ U) → str_ G U s L2)
    (K : ∀ (w1 : WS), sbI G x (T ++ T2) a L w1 → str_ G (T ++ T2) s L2 → Ev G d b M pc ls st w1 Z) : Ev G d b M pc ls st w Z := by
  obtain ⟨v, mm, f, rfl, h2⟩ := hb
  subst hw
  refine ev_tp (T' := (T ++ T2) ++ [sbO a v L.length, byA G v mm f]) ?_ (K _ ⟨v, mm, f, rfl, h2⟩ (hs _ (fun q hq => List.mem_append_right _ hq)))
  show List.Perm ((T ++ T2) ++ [sbO a v L.length, byA G v mm f]) ((T ++ [sbO a v L.length, byA G v mm f]) ++ T2)
  rw [List.append_assoc, List.append_assoc]
  exact List.Perm.append_left T List.perm_append_comm
end
theorem nx_s {k : Nat} (h : k < 2 ^ 31) : nI k - nI 1 = (if k = 0 then -1 else nI (k - 1)) := by
  by_cases e : k = 0
  · rw [if_pos e, e]
    decide
  · rw [if_neg e, pk_sub (by omega)]
theorem ev_topL {G : GX} {d b : Nat} {M : MT} {pc : Nat} {ls : List (Option Value)} {st : List Value} {w : WS} {Z : ZT} {x y : Int64} (h : x = y) (K : Ev G d b M pc ls (.long y :: st) w Z) : Ev G d b M pc ls (.long x :: st) w Z := by
  rw [h]
  exact K
theorem st_any {G : GX} {s z : Nat} {L : List Nat} {g : Nat → Int32} (hx : tx_ g L) {U : va_W} (h1 : stO s z ∈ U) (h2 : byA G z L.length g ∈ U) : str_ G U (10000 + s) L := ⟨g, Or.inl ⟨s, z, 0, 0, rfl, h1, h2⟩, hx⟩
set_option maxRecDepth 8000 in
theorem gL_und_0 {G : GX} {bb : Nat} {Z : ZT} {w : WS} {A : AS} (hX : aX A w) (hA : aN A = 0) {T1 : va_W} (hT : T1.Sublist w.2) {c : Nat} (hc : c < 2 ^ 31) (hq : (c % 9 == 0) = true) {v2 v3 v4 v7 v8 : Option Value} (K : ∀ (w : WS) (A2 : AS) (v : Int32), aX A2 w → stpO A A2 v (c % 9 == 0) → T1.Sublist w.2 → Ev G 23 bb mL_undone 369 [some (.ref 1000), some (.ref 0), v2, v3, v4, some (.int (nI (c))), some (.int (nI (c / 2 ^ 4))), some (.int v), v8] [] w Z) : Ev G 23 (1 + bb) mL_undone 96 [some (.ref 1000), some (.ref 0), v2, v3, v4, some (.int (nI (c))), some (.int (nI (c / 2 ^ 4))), v7, v8] [] w Z := by
  have ho := hX.1.2
  have hE : (c / 2 ^ 4) < 2 ^ 31 := Nat.lt_of_le_of_lt (Nat.div_le_self _ _) hc
  refine ev_aload_n dL_undone_96 rfl ?_
  refine ev_iload dL_undone_97 rfl ?_
  refine ev_bipush (v := nI 66) dL_undone_99 (by decide) ?_
  refine ev_irem dL_undone_101 (by decide) ?_
  refine ev_top (pk_rem (by omega) (by decide) (by decide)) ?_
  refine ev_iload dL_undone_102 rfl ?_
  refine ev_bipush (v := nI 7) dL_undone_104 (by decide) ?_
  refine ev_iushr dL_undone_106 (us_v hE (s := 7) (by decide)) ?_
  refine ev_bipush (v := nI 6) dL_undone_107 (by decide) ?_
  refine ev_irem dL_undone_109 (by decide) ?_
  refine ev_top (pk_rem (Nat.lt_of_le_of_lt (Nat.div_le_self _ _) hE) (by decide) (by decide)) ?_
  refine ev_iconst dL_undone_110 ic1 ?_
  refine ev_isub dL_undone_111 ?_
  refine ev_q kL_164 (as := [.ref 0, .int (nI ((c / 2 ^ 4) % 66)), .int (nI ((c / 2 ^ 4) / 2 ^ 7 % 6) - nI 1)]) (rest := []) (hL_paint hX (nI ((c / 2 ^ 4) % 66)) (nI ((c / 2 ^ 4) / 2 ^ 7 % 6) - nI 1)) dL_undone_112 rfl (by decide) (by omega) rfl (fun w2 hX2 hT2 => ?_)
  refine ev_ist7 dL_undone_115 (by decide) rfl ?_
  refine ev_goto (tgt := 369) dL_undone_117 (by decide) ?_
  exact ev_bu _ (by omega) (K w2 _ _ hX2 (by rw [hq]; exact so_paint hA ho _ _) (by rw [hT2]; exact hT))
set_option maxRecDepth 8000 in
theorem gL_und_12 {G : GX} {bb : Nat} {Z : ZT} {w : WS} {A : AS} (hX : aX A w) (hA : aN A = 0) {T1 : va_W} (hT : T1.Sublist w.2) {c : Nat} (hc : c < 2 ^ 31) (hq : (c % 9 == 0) = false) {v2 v3 v4 v7 v8 : Option Value} (K : ∀ (w : WS) (A2 : AS) (v : Int32), aX A2 w → stpO A A2 v (c % 9 == 0) → T1.Sublist w.2 → Ev G 23 bb mL_undone 369 [some (.ref 1000), some (.ref 0), v2, v3, v4, some (.int (nI (c))), some (.int (nI (c / 2 ^ 4))), some (.int v), v8] [] w Z) : Ev G 23 (1 + bb) mL_undone 120 [some (.ref 1000), some (.ref 0), v2, v3, v4, some (.int (nI (c))), some (.int (nI (c / 2 ^ 4))), v7, v8] [] w Z := by
  have ho := hX.1.2
  have hE : (c / 2 ^ 4) < 2 ^ 31 := Nat.lt_of_le_of_lt (Nat.div_le_self _ _) hc
  refine ev_aload_n dL_undone_120 rfl ?_
  refine ev_iload dL_undone_121 rfl ?_
  refine ev_bipush (v := nI 64) dL_undone_123 (by decide) ?_
  refine ev_irem dL_undone_125 (by decide) ?_
  refine ev_top (pk_rem (by omega) (by decide) (by decide)) ?_
  refine ev_iload dL_undone_126 rfl ?_
  refine ev_bipush (v := nI 6) dL_undone_128 (by decide) ?_
  refine ev_iushr dL_undone_130 (us_v hE (s := 6) (by decide)) ?_
  refine ev_iconst dL_undone_131 ic4 ?_
  refine ev_irem dL_undone_132 (by decide) ?_
  refine ev_top (pk_rem (Nat.lt_of_le_of_lt (Nat.div_le_self _ _) hE) (by decide) (by decide)) ?_
  refine ev_q kL_347 (as := [.ref 0, .int (nI ((c / 2 ^ 4) % 64)), .int (nI ((c / 2 ^ 4) / 2 ^ 6 % 4))]) (rest := []) (hL_shave hX (nI ((c / 2 ^ 4) % 64)) (nI ((c / 2 ^ 4) / 2 ^ 6 % 4))) dL_undone_133 rfl (by decide) (by omega) rfl (fun w2 hX2 hT2 => ?_)
  refine ev_ist7 dL_undone_136 (by decide) rfl ?_
  refine ev_goto (tgt := 369) dL_undone_138 (by decide) ?_
  exact ev_bu _ (by omega) (K w2 _ _ hX2 (by rw [hq]; exact so_shave hA ho _ _ _) (by rw [hT2]; exact hT))
set_option maxRecDepth 8000 in
theorem gL_und_3 {G : GX} {bb : Nat} {Z : ZT} {w : WS} {A : AS} (hX : aX A w) (hA : aN A = 0) {T1 : va_W} (hT : T1.Sublist w.2) {c : Nat} (hc : c < 2 ^ 31) (hq : (c % 9 == 0) = false) {v2 v3 v4 v7 v8 : Option Value} (K : ∀ (w : WS) (A2 : AS) (v : Int32), aX A2 w → stpO A A2 v (c % 9 == 0) → T1.Sublist w.2 → Ev G 23 bb mL_undone 369 [some (.ref 1000), some (.ref 0), v2, v3, v4, some (.int (nI (c))), some (.int (nI (c / 2 ^ 4))), some (.int v), v8] [] w Z) : Ev G 23 (1 + bb) mL_undone 141 [some (.ref 1000), some (.ref 0), v2, v3, v4, some (.int (nI (c))), some (.int (nI (c / 2 ^ 4))), v7, v8] [] w Z := by
  have ho := hX.1.2
  have hE : (c / 2 ^ 4) < 2 ^ 31 := Nat.lt_of_le_of_lt (Nat.div_le_self _ _) hc
  refine ev_aload_n dL_undone_141 rfl ?_
  refine ev_iload dL_undone_142 rfl ?_
  refine ev_bipush (v := nI 11) dL_undone_144 (by decide) ?_
  refine ev_irem dL_undone_146 (by decide) ?_
  refine ev_top (pk_rem (by omega) (by decide) (by decide)) ?_
  refine ev_q kL_169 (as := [.ref 0, .int (nI ((c / 2 ^ 4) % 11))]) (rest := []) (hL_scale hX (nI ((c / 2 ^ 4) % 11))) dL_undone_147 rfl (by decide) (by omega) rfl (fun w2 hX2 hT2 => ?_)
  refine ev_ist7 dL_undone_150 (by decide) rfl ?_
  refine ev_goto (tgt := 369) dL_undone_152 (by decide) ?_
  exact ev_bu _ (by omega) (K w2 _ _ hX2 (by rw [hq]; exact so_scale hA ho _ _) (by rw [hT2]; exact hT))
set_option maxRecDepth 8000 in
theorem gL_und_5 {G : GX} {bb : Nat} {Z : ZT} {w : WS} {A : AS} (hX : aX A w) (hA : aN A = 0) {T1 : va_W} (hT : T1.Sublist w.2) {c : Nat} (hc : c < 2 ^ 31) (hq : (c % 9 == 0) = false) {v2 v3 v4 v7 v8 : Option Value} (K : ∀ (w : WS) (A2 : AS) (v : Int32), aX A2 w → stpO A A2 v (c % 9 == 0) → T1.Sublist w.2 → Ev G 23 bb mL_undone 369 [some (.ref 1000), some (.ref 0), v2, v3, v4, some (.int (nI (c))), some (.int (nI (c / 2 ^ 4))), some (.int v), v8] [] w Z) : Ev G 23 (1 + bb) mL_undone 220 [some (.ref 1000), some (.ref 0), v2, v3, v4, some (.int (nI (c))), some (.int (nI (c / 2 ^ 4))), v7, v8] [] w Z := by
  have ho := hX.1.2
  have hE : (c / 2 ^ 4) < 2 ^ 31 := Nat.lt_of_le_of_lt (Nat.div_le_self _ _) hc
  refine ev_aload_n dL_undone_220 rfl ?_
  refine ev_iload dL_undone_221 rfl ?_
  refine ev_iconst dL_undone_223 ic4 ?_
  refine ev_irem dL_undone_224 (by decide) ?_
  refine ev_top (pk_rem (by omega) (by decide) (by decide)) ?_
  refine ev_q kL_355 (as := [.ref 0, .int (nI ((c / 2 ^ 4) % 4))]) (rest := []) (hL_drop hX (nI ((c / 2 ^ 4) % 4))) dL_undone_225 rfl (by decide) (by omega) rfl (fun w2 hX2 hT2 => ?_)
  refine ev_ist7 dL_undone_228 (by decide) rfl ?_
  refine ev_goto (tgt := 369) dL_undone_230 (by decide) ?_
  exact ev_bu _ (by omega) (K w2 _ _ hX2 (by rw [hq]; exact so_drop hA ho _ _) (by rw [hT2]; exact hT))
set_option maxRecDepth 8000 in
theorem gL_und_6 {G : GX} {bb : Nat} {Z : ZT} {w : WS} {A : AS} (hX : aX A w) (hA : aN A = 0) {T1 : va_W} (hT : T1.Sublist w.2) {c : Nat} (hc : c < 2 ^ 31) (hq : (c % 9 == 0) = false) {v2 v3 v4 v7 v8 : Option Value} (K : ∀ (w : WS) (A2 : AS) (v : Int32), aX A2 w → stpO A A2 v (c % 9 == 0) → T1.Sublist w.2 → Ev G 23 bb mL_undone 369 [some (.ref 1000), some (.ref 0), v2, v3, v4, some (.int (nI (c))), some (.int (nI (c / 2 ^ 4))), some (.int v), v8] [] w Z) : Ev G 23 (1 + bb) mL_undone 233 [some (.ref 1000), some (.ref 0), v2, v3, v4, some (.int (nI (c))), some (.int (nI (c / 2 ^ 4))), v7, v8] [] w Z := by
  have ho := hX.1.2
  have hE : (c / 2 ^ 4) < 2 ^ 31 := Nat.lt_of_le_of_lt (Nat.div_le_self _ _) hc
  refine ev_aload_n dL_undone_233 rfl ?_
  refine ev_iload dL_undone_234 rfl ?_
  refine ev_bipush (v := nI 65) dL_undone_236 (by decide) ?_
  refine ev_irem dL_undone_238 (by decide) ?_
  refine ev_top (pk_rem (by omega) (by decide) (by decide)) ?_
  refine ev_iload dL_undone_239 rfl ?_
  refine ev_bipush (v := nI 7) dL_undone_241 (by decide) ?_
  refine ev_iushr dL_undone_243 (us_v hE (s := 7) (by decide)) ?_
  refine ev_bipush (v := nI 52) dL_undone_244 (by decide) ?_
  refine ev_irem dL_undone_246 (by decide) ?_
  refine ev_top (pk_rem (Nat.lt_of_le_of_lt (Nat.div_le_self _ _) hE) (by decide) (by decide)) ?_
  refine ev_q kL_193 (as := [.ref 0, .int (nI ((c / 2 ^ 4) % 65)), .int (nI ((c / 2 ^ 4) / 2 ^ 7 % 52))]) (rest := []) (hL_dragon hX (nI ((c / 2 ^ 4) % 65)) (nI ((c / 2 ^ 4) / 2 ^ 7 % 52))) dL_undone_247 rfl (by decide) (by omega) rfl (fun w2 hX2 hT2 => ?_)
  refine ev_ist7 dL_undone_250 (by decide) rfl ?_
  refine ev_goto (tgt := 369) dL_undone_252 (by decide) ?_
  exact ev_bu _ (by omega) (K w2 _ _ hX2 (by rw [hq]; exact so_dragon hA ho _ _ _) (by rw [hT2]; exact hT))
set_option maxRecDepth 8000 in
theorem gL_und_7 {G : GX} {bb : Nat} {Z : ZT} {w : WS} {A : AS} (hX : aX A w) (hA : aN A = 0) {T1 : va_W} (hT : T1.Sublist w.2) {c : Nat} (hc : c < 2 ^ 31) (hq : (c % 9 == 0) = false) {v2 v3 v4 v7 v8 : Option Value} (K : ∀ (w : WS) (A2 : AS) (v : Int32), aX A2 w → stpO A A2 v (c % 9 == 0) → T1.Sublist w.2 → Ev G 23 bb mL_undone 369 [some (.ref 1000), some (.ref 0), v2, v3, v4, some (.int (nI (c))), some (.int (nI (c / 2 ^ 4))), some (.int v), v8] [] w Z) : Ev G 23 (1 + bb) mL_undone 255 [some (.ref 1000), some (.ref 0), v2, v3, v4, some (.int (nI (c))), some (.int (nI (c / 2 ^ 4))), v7, v8] [] w Z := by
  have ho := hX.1.2
  have hE : (c / 2 ^ 4) < 2 ^ 31 := Nat.lt_of_le_of_lt (Nat.div_le_self _ _) hc
  refine ev_aload_n dL_undone_255 rfl ?_
  refine ev_iload dL_undone_256 rfl ?_
  refine ev_iconst dL_undone_258 ic5 ?_
  refine ev_irem dL_undone_259 (by decide) ?_
  refine ev_top (pk_rem (by omega) (by decide) (by decide)) ?_
  refine ev_q kL_357 (as := [.ref 0, .int (nI ((c / 2 ^ 4) % 5))]) (rest := []) (hL_scare hX (nI ((c / 2 ^ 4) % 5))) dL_undone_260 rfl (by decide) (by omega) rfl (fun w2 hX2 hT2 => ?_)
  refine ev_ist7 dL_undone_263 (by decide) rfl ?_
  refine ev_goto (tgt := 369) dL_undone_265 (by decide) ?_
  exact ev_bu _ (by omega) (K w2 _ _ hX2 (by rw [hq]; exact so_scare hA ho _ _) (by rw [hT2]; exact hT))
set_option maxRecDepth 8000 in
theorem gL_und_4 {G : GX} {bb : Nat} {Z : ZT} {w : WS} {A : AS} (hX : aX A w) (hA : aN A = 0) {T1 : va_W} (hT : T1.Sublist w.2) {c : Nat} (hc : c < 2 ^ 31) (hq : (c % 9 == 0) = false) {v2 v3 v4 v7 v8 : Option Value} (K : ∀ (w : WS) (A2 : AS) (v : Int32), aX A2 w → stpO A A2 v (c % 9 == 0) → T1.Sublist w.2 → Ev G 23 bb mL_undone 369 [some (.ref 1000), some (.ref 0), v2, v3, v4, some (.int (nI (c))), some (.int (nI (c / 2 ^ 4))), some (.int v), v8] [] w Z) : Ev G 23 (2500 + bb) mL_undone 155 [some (.ref 1000), some (.ref 0), v2, v3, v4, some (.int (nI (c))), some (.int (nI (c / 2 ^ 4))), v7, v8] [] w Z := by
  have ho := hX.1.2
  have hE : (c / 2 ^ 4) < 2 ^ 31 := Nat.lt_of_le_of_lt (Nat.div_le_self _ _) hc
  have hi4 : (c / 2 ^ 4) % 4 < 4 := Nat.mod_lt _ (by decide)
  have dl : ∀ j : Fin 4, tyL (List.drop j.val [110, 101, 115, 119]) ∧ (List.drop j.val [110, 101, 115, 119]).length ≤ 4 := fun j => ⟨fun c hc => by
    have h := List.mem_of_mem_drop hc
    simp only [List.mem_cons, List.mem_nil_iff, or_false] at h
    omega, by rw [List.length_drop]; exact Nat.sub_le _ _⟩
  obtain ⟨dl1, dl2⟩ := dl ⟨_, hi4⟩
  refine ev_aload_n dL_undone_155 rfl ?_
  refine ev_iload dL_undone_156 rfl ?_
  refine ev_bipush (v := nI 64) dL_undone_158 (by decide) ?_
  refine ev_irem dL_undone_160 (by decide) ?_
  refine ev_top (pk_rem (by omega) (by decide) (by decide)) ?_
  refine ev_newT mk_L_174 (by omega) dL_undone_161 (fun a => ?_)
  refine ev_dup dL_undone_164 rfl ?_
  refine ev_callIP iL_176 (as := []) (rest := [dy a, .int (nI ((c / 2 ^ 4) % 64)), .ref 0]) (cJ4_init (x := w.1) (T := w.2)) dL_undone_165 rfl (by decide) (by omega) rfl (fun r0 w3 hp => ?_)
  obtain ⟨rfl, hb⟩ := hp
  obtain ⟨f0, hq0, hx0⟩ := id (ltx_1 (G := G) (T := w3.2))
  have hw3 : w3 = (w.1, w3.2) := by rw [← sbI_1 hb]
  refine ev_ldcS 1 rfl rfl dL_undone_168 ?_
  refine ev_iload dL_undone_170 rfl ?_
  refine ev_iconst dL_undone_172 ic4 ?_
  refine ev_irem dL_undone_173 (by decide) ?_
  refine ev_top (pk_rem (by omega) (by decide) (by decide)) ?_
  refine ev_iconst dL_undone_174 ic4 ?_
  refine ev_w (w' := (w.1, w3.2)) hw3 ?_
  refine ev_callVP kL_349 (as := [.int (nI ((c / 2 ^ 4) % 4)), .int (nI 4)]) (rest := [dy a, .int (nI ((c / 2 ^ 4) % 64)), .ref 0]) (sv_rv hq0) (cJ0_substring (x := w.1) (T := w3.2) (L := [110, 101, 115, 119]) (fun U => ltx_1) hi4 (by decide)) dL_undone_175 rfl (by decide) (by omega) rfl (fun r0 w4 hp => ?_)
  obtain ⟨s2, T2, rfl, hw4, hs2⟩ := hp
  refine ev_sbsub hb hw4 hs2 (fun w3 hb hs5 => ?_)
  have hT : T1.Sublist (w.2 ++ T2) := hT.trans (List.sublist_append_left _ _)
  refine ev_callVP kL_177 (as := [.ref s2]) (rest := [.int (nI ((c / 2 ^ 4) % 64)), .ref 0]) (sb_rv hb) (cJ4_appStr hb hs5 (by simp; omega)) dL_undone_178 rfl (by decide) (by omega) rfl (fun r0 w3 hp => ?_)
  obtain ⟨rfl, hb⟩ := hp
  refine ev_iload dL_undone_181 rfl ?_
  refine ev_bipush (v := nI 9) dL_undone_183 (by decide) ?_
  refine ev_irem dL_undone_185 (by decide) ?_
  refine ev_top (pk_rem (by omega) (by decide) (by decide)) ?_
  have at198 : ∀ (s ch : Nat), str_ G (w.2 ++ T2) s [ch] → 32 ≤ ch → ch ≤ 126 → Ev G 23 (400 + 510 + bb) mL_undone 198 [some (.ref 1000), some (.ref 0), v2, v3, v4, some (.int (nI (c))), some (.int (nI (c / 2 ^ 4))), v7, v8] [.ref s, dy a, .int (nI ((c / 2 ^ 4) % 64)), .ref 0] w3 Z := by
    intro s ch hs6 h32 h126
    refine ev_callVP kL_177 (as := [.ref s]) (rest := [.int (nI ((c / 2 ^ 4) % 64)), .ref 0]) (sb_rv hb) (cJ4_appStr hb hs6 (by simp; omega)) dL_undone_198 rfl (by decide) (by omega) rfl (fun r0 w3 hp => ?_)
    obtain ⟨rfl, hb⟩ := hp
    refine ev_callVP kL_185 (as := []) (rest := [.int (nI ((c / 2 ^ 4) % 64)), .ref 0]) (sb_rv hb) (cJ4_toString hb) dL_undone_201 rfl (by decide) (by omega) rfl (fun r0 w3 hp => ?_)
    obtain ⟨s, rfl, hst⟩ := hp
    obtain ⟨hs1, hs2, hs3, hs4⟩ := stI_u hst
    refine ev_iload dL_undone_204 rfl ?_
    refine ev_bipush (v := nI 6) dL_undone_206 (by decide) ?_
    refine ev_iushr dL_undone_208 (us_v hE (s := 6) (by decide)) ?_
    refine ev_bipush (v := nI 101) dL_undone_209 (by decide) ?_
    refine ev_irem dL_undone_211 (by decide) ?_
    refine ev_top (pk_rem (Nat.lt_of_le_of_lt (Nat.div_le_self _ _) hE) (by decide) (by decide)) ?_
    refine ev_callSP kL_189 (as := [.ref 0, .int (nI ((c / 2 ^ 4) % 64)), dy s, .int (nI ((c / 2 ^ 4) / 2 ^ 6 % 101))]) (rest := []) (gL_draws (A := A) (aX_of hs1 hX) hA hs3 (by simp; omega) (fun c hc => ?_) (nI ((c / 2 ^ 4) % 64)) (nI ((c / 2 ^ 4) / 2 ^ 6 % 101))) dL_undone_212 rfl (by decide) (by omega) rfl (fun r0 w2 hp => ?_)
    · simp only [List.nil_append, List.mem_append, List.mem_singleton] at hc
      rcases hc with hc | rfl
      · exact dl1 c hc
      · exact ⟨h32, h126⟩
    obtain ⟨hT2, ty, hty, rfl, hX2⟩ := hp
    refine ev_ist7 dL_undone_215 (by decide) rfl ?_
    refine ev_goto (tgt := 369) dL_undone_217 (by decide) ?_
    exact ev_bu _ (by omega) (K w2 _ _ hX2 (by rw [hq]; exact so_river ho _ _ _ _ _) (by rw [hT2]; exact hT.trans hs2))
  by_cases h9 : (c / 2 ^ 4) % 9 = 0
  · refine ev_if_ne_f (tgt := 195) dL_undone_186 (by decide) (by rw [h9]; rfl) ?_
    refine ev_ldcwS 11 rfl rfl dL_undone_189 ?_
    refine ev_goto (tgt := 198) dL_undone_192 (by decide) ?_
    exact ev_bu _ (by omega) (at198 2011 120 ltx_11 (by decide) (by decide))
  · refine ev_if_ne_t (tgt := 195) dL_undone_186 (by decide) (fun q => h9 ((nI_eq (b := 0) (by omega) (by decide)).mp q)) ?_
    refine ev_ldcwS 7 rfl rfl dL_undone_195 ?_
    exact ev_bu _ (by omega) (at198 2007 115 ltx_7 (by decide) (by decide))
set_option maxRecDepth 8000 in
theorem gL_und_8 {G : GX} {bb : Nat} {Z : ZT} {w : WS} {A : AS} (hX : aX A w) (hA : aN A = 0) {T1 : va_W} (hT : T1.Sublist w.2) {c : Nat} (hc : c < 2 ^ 31) (hq : (c % 9 == 0) = false) {v2 v3 v4 v7 v8 : Option Value} (K : ∀ (w : WS) (A2 : AS) (v : Int32), aX A2 w → stpO A A2 v (c % 9 == 0) → T1.Sublist w.2 → Ev G 23 bb mL_undone 369 [some (.ref 1000), some (.ref 0), v2, v3, v4, some (.int (nI (c))), some (.int (nI (c / 2 ^ 4))), some (.int v), v8] [] w Z) : Ev G 23 (6500 + bb) mL_undone 268 [some (.ref 1000), some (.ref 0), v2, v3, v4, some (.int (nI (c))), some (.int (nI (c / 2 ^ 4))), v7, v8] [] w Z := by
  have ho := hX.1.2
  have hE : (c / 2 ^ 4) < 2 ^ 31 := Nat.lt_of_le_of_lt (Nat.div_le_self _ _) hc
  have hu1 : ((c / 2 ^ 4) % 64) < 64 := Nat.mod_lt _ (by decide)
  have hu2 : ((c / 2 ^ 4) / 2 ^ 6 % 64) < 64 := Nat.mod_lt _ (by decide)
  have hu3 : ((c / 2 ^ 4) % 6) < 6 := Nat.mod_lt _ (by decide)
  have n1 := (nuL_le ((c / 2 ^ 4) % 64)).1
  have n2 := (nuL_le ((c / 2 ^ 4) / 2 ^ 6 % 64)).1
  have n3 := (nuL_le ((c / 2 ^ 4) % 6)).1
  have nty : ∀ u, u < 100 → tyL (nuL u) := fun u hu c hc => by
    unfold nuL at hc
    split at hc
    · simp only [List.mem_singleton] at hc
      omega
    · simp only [List.mem_cons, List.mem_nil_iff, or_false] at hc
      omega
  refine ev_aload_n dL_undone_268 rfl ?_
  refine ev_newT mk_L_174 (by omega) dL_undone_269 (fun a => ?_)
  refine ev_dup dL_undone_272 rfl ?_
  refine ev_callIP iL_176 (as := []) (rest := [dy a, .ref 0]) (cJ4_init (x := w.1) (T := w.2)) dL_undone_273 rfl (by decide) (by omega) rfl (fun r0 w3 hp => ?_)
  obtain ⟨rfl, hb⟩ := hp
  refine ev_ldcwS 12 rfl rfl dL_undone_276 ?_
  refine ev_callVP kL_177 (as := [.ref 2012]) (rest := [.ref 0]) (sb_rv hb) (cJ4_appStr hb ltx_12 (by simp)) dL_undone_279 rfl (by decide) (by omega) rfl (fun r0 w3 hp => ?_)
  obtain ⟨rfl, hb⟩ := hp
  refine ev_iload dL_undone_282 rfl ?_
  refine ev_bipush (v := nI 64) dL_undone_284 (by decide) ?_
  refine ev_irem dL_undone_286 (by decide) ?_
  refine ev_top (pk_rem (by omega) (by decide) (by decide)) ?_
  refine ev_callVP kL_312 (as := [.int (nI ((c / 2 ^ 4) % 64))]) (rest := [.ref 0]) (sb_rv hb) (cJ4_appInt hb (u := (c / 2 ^ 4) % 64) (by omega) (by simp)) dL_undone_287 rfl (by decide) (by omega) rfl (fun r0 w3 hp => ?_)
  obtain ⟨rfl, hb⟩ := hp
  refine ev_ldcwS 13 rfl rfl dL_undone_290 ?_
  refine ev_callVP kL_177 (as := [.ref 2013]) (rest := [.ref 0]) (sb_rv hb) (cJ4_appStr hb ltx_13 (by simp only [List.length_append, List.length_cons, List.length_nil, List.nil_append]; omega)) dL_undone_293 rfl (by decide) (by omega) rfl (fun r0 w3 hp => ?_)
  obtain ⟨rfl, hb⟩ := hp
  refine ev_iload dL_undone_296 rfl ?_
  refine ev_bipush (v := nI 6) dL_undone_298 (by decide) ?_
  refine ev_iushr dL_undone_300 (us_v hE (s := 6) (by decide)) ?_
  refine ev_bipush (v := nI 64) dL_undone_301 (by decide) ?_
  refine ev_irem dL_undone_303 (by decide) ?_
  refine ev_top (pk_rem (Nat.lt_of_le_of_lt (Nat.div_le_self _ _) hE) (by decide) (by decide)) ?_
  refine ev_callVP kL_312 (as := [.int (nI ((c / 2 ^ 4) / 2 ^ 6 % 64))]) (rest := [.ref 0]) (sb_rv hb) (cJ4_appInt hb (u := (c / 2 ^ 4) / 2 ^ 6 % 64) (by omega) (by simp only [List.length_append, List.length_cons, List.length_nil, List.nil_append]; omega)) dL_undone_304 rfl (by decide) (by omega) rfl (fun r0 w3 hp => ?_)
  obtain ⟨rfl, hb⟩ := hp
  refine ev_ldcwS 14 rfl rfl dL_undone_307 ?_
  refine ev_callVP kL_177 (as := [.ref 2014]) (rest := [.ref 0]) (sb_rv hb) (cJ4_appStr hb ltx_14 (by simp only [List.length_append, List.length_cons, List.length_nil, List.nil_append]; omega)) dL_undone_310 rfl (by decide) (by omega) rfl (fun r0 w3 hp => ?_)
  obtain ⟨rfl, hb⟩ := hp
  refine ev_iload dL_undone_313 rfl ?_
  refine ev_bipush (v := nI 18) dL_undone_315 (by decide) ?_
  refine ev_irem dL_undone_317 (by decide) ?_
  refine ev_top (pk_rem (by omega) (by decide) (by decide)) ?_
  refine ev_bipush (v := nI 9) dL_undone_318 (by decide) ?_
  have at352 : ∀ (T : va_W) (w3 : WS) (s : Nat) (Lz : List Nat), w.2.Sublist T → sbI G w.1 T a ((((([] ++ [112]) ++ nuL ((c / 2 ^ 4) % 64)) ++ [98, 59, 112]) ++ nuL ((c / 2 ^ 4) / 2 ^ 6 % 64)) ++ [46]) w3 → str_ G T s Lz → tyL Lz → Lz.length ≤ 4 → Ev G 23 (1400 + bb) mL_undone 352 [some (.ref 1000), some (.ref 0), v2, v3, v4, some (.int (nI (c))), some (.int (nI (c / 2 ^ 4))), v7, v8] [.ref s, dy a, .ref 0] w3 Z := by
    intro T w3 s Lz hTT hb hz hzt hzl
    refine ev_callVP kL_177 (as := [.ref s]) (rest := [.ref 0]) (sb_rv hb) (cJ4_appStr hb hz (by simp only [List.length_append, List.length_cons, List.length_nil, List.nil_append]; omega)) dL_undone_352 rfl (by decide) (by omega) rfl (fun r0 w3 hp => ?_)
    obtain ⟨rfl, hb⟩ := hp
    refine ev_ldcwS 16 rfl rfl dL_undone_355 ?_
    refine ev_callVP kL_177 (as := [.ref 2016]) (rest := [.ref 0]) (sb_rv hb) (cJ4_appStr hb ltx_16 (by simp only [List.length_append, List.length_cons, List.length_nil, List.nil_append]; omega)) dL_undone_358 rfl (by decide) (by omega) rfl (fun r0 w3 hp => ?_)
    obtain ⟨rfl, hb⟩ := hp
    refine ev_callVP kL_185 (as := []) (rest := [.ref 0]) (sb_rv hb) (cJ4_toString hb) dL_undone_361 rfl (by decide) (by omega) rfl (fun r0 w3 hp => ?_)
    obtain ⟨s, rfl, hst⟩ := hp
    obtain ⟨hs1, hs2, hs3, hs4⟩ := stI_u hst
    refine ev_callSP kL_369 (as := [.ref 0, dy s]) (rest := []) (gL_read (A := A) (aX_of hs1 hX) hA hs3 (by simp only [List.length_append, List.length_cons, List.length_nil, List.nil_append]; omega) (fun c hc => ?_)) dL_undone_364 rfl (by decide) (by omega) rfl (fun r0 w2 hp => ?_)
    · simp only [List.nil_append, List.mem_append, List.mem_singleton] at hc
      rcases hc with (((((hc | hc) | hc) | hc) | hc) | hc) | hc
      · omega
      · exact nty _ (by omega) c hc
      · simp only [List.mem_cons, List.mem_nil_iff, or_false] at hc
        omega
      · exact nty _ (by omega) c hc
      · omega
      · exact hzt c hc
      · simp only [List.mem_cons, List.mem_nil_iff, or_false] at hc
        omega
    obtain ⟨hT2, ty, hty, rfl, hX2⟩ := hp
    refine ev_ist7 dL_undone_367 (by decide) rfl ?_
    exact ev_bu _ (by omega) (K w2 _ _ hX2 (by rw [hq]; exact so_read rfl rfl) (by rw [hT2]; exact (hT.trans hTT).trans hs2))
  by_cases h9 : c % 18 < 9
  · refine ev_icmp_ge_f (tgt := 328) dL_undone_320 (by decide) (nI_ge h9 (by decide)) ?_
    refine ev_ldcS 0 rfl rfl dL_undone_323 ?_
    refine ev_goto (tgt := 352) dL_undone_325 (by decide) ?_
    exact ev_bu _ (by omega) (at352 w.2 w3 2000 [] (List.Sublist.refl _) hb ltx_0 (fun c hc => by cases hc) (by decide))
  · refine ev_icmp_ge_t (tgt := 328) dL_undone_320 (by decide) (Int32.not_lt.mp (nI_nlt (Nat.not_lt.mp h9) (by omega))) ?_
    have hb0 := hb
    have e3 : w3.1 = w.1 := sbI_1 hb
    refine ev_newT mk_L_174 (by omega) dL_undone_328 (fun a2 => ?_)
    refine ev_dup dL_undone_331 rfl ?_
    refine ev_callIP iL_176 (as := []) (rest := [dy a2, dy a, .ref 0]) (cJ4_init (x := w3.1) (T := w3.2)) dL_undone_332 rfl (by decide) (by omega) rfl (fun r0 w5 hp => ?_)
    obtain ⟨rfl, hb⟩ := hp
    refine ev_ldcwS 15 rfl rfl dL_undone_335 ?_
    refine ev_callVP kL_177 (as := [.ref 2015]) (rest := [dy a, .ref 0]) (sb_rv hb) (cJ4_appStr hb ltx_15 (by simp)) dL_undone_338 rfl (by decide) (by omega) rfl (fun r0 w5 hp => ?_)
    obtain ⟨rfl, hb⟩ := hp
    refine ev_iload dL_undone_341 rfl ?_
    refine ev_bipush (v := nI 6) dL_undone_343 (by decide) ?_
    refine ev_irem dL_undone_345 (by decide) ?_
    refine ev_top (pk_rem (by omega) (by decide) (by decide)) ?_
    refine ev_callVP kL_312 (as := [.int (nI ((c / 2 ^ 4) % 6))]) (rest := [dy a, .ref 0]) (sb_rv hb) (cJ4_appInt hb (u := (c / 2 ^ 4) % 6) (by omega) (by simp)) dL_undone_346 rfl (by decide) (by omega) rfl (fun r0 w5 hp => ?_)
    obtain ⟨rfl, hb⟩ := hp
    refine ev_callVP kL_185 (as := []) (rest := [dy a, .ref 0]) (sb_rv hb) (cJ4_toString hb) dL_undone_349 rfl (by decide) (by omega) rfl (fun r0 w6 hp => ?_)
    obtain ⟨s, rfl, zz, g, hw6, htx⟩ := hp
    refine ev_sbsub hb0 (hw6.trans (by rw [e3])) (s := 10000 + s) (fun U hU => st_any (s := s) (z := zz) htx (hU _ (by simp)) (hU _ (by simp))) (fun w7 hb7 hs7 => ?_)
    exact ev_bu _ (by omega) (at352 _ w7 (10000 + s) _ (List.sublist_append_left _ _) hb7 hs7 (fun c hc => by
      simp only [List.nil_append, List.mem_append] at hc
      rcases hc with hc | hc
      · simp only [List.mem_cons, List.mem_nil_iff, or_false] at hc
        omega
      · exact nty _ (by omega) c hc) (by simp only [List.length_append, List.length_cons, List.length_nil, List.nil_append]; omega))
set_option maxRecDepth 8000 in
theorem gL_und_i {G : GX} (hN : gN G ≤ 260) {bb : Nat} {T0 : va_W} {z : Nat} {Z : ZT}
    (K : ∀ (k : Nat) (w : WS) (A : AS) (f : Nat → Int64) (Pq Ls : List ST) (v5 v6 v7 v8 : Option Value), k ≤ 6 → aX A w → aN A = 0 → w.2 = T0 ++ [arL G z 7 f] → aH A = Pq ++ Ls → Ls.length = k → (∀ j S, Ls[j]? = some S → f j = smF S) → Ev G 23 bb mL_undone 432 [some (.ref 1000), some (.ref 0), some (dy z), some (.int (nI (k))), some (.int (nI (6))), v5, v6, v7, v8] [] w Z) :
    ∀ (n i : Nat) (k : Nat) (w : WS) (A : AS) (f : Nat → Int64) (Pq Ls : List ST) (v5 v6 v7 v8 : Option Value), i + n = 6 → k ≤ i → aX A w → aN A = 0 → w.2 = T0 ++ [arL G z 7 f] → aH A = Pq ++ Ls → Ls.length = k → (∀ j S, Ls[j]? = some S → f j = smF S) → Ev G 23 (7500 * n + bb) mL_undone 10 [some (.ref 1000), some (.ref 0), some (dy z), some (.int (nI (k))), some (.int (nI (i))), v5, v6, v7, v8] [] w Z := by
  intro n
  induction n with
  | zero =>
    intro i k w A f Pq Ls v5 v6 v7 v8 hi hk hX hA hT hH hL hf
    obtain rfl : i = 6 := by omega
    refine ev_iload dL_undone_10 rfl ?_
    refine ev_bipush (v := nI 6) dL_undone_12 (by decide) ?_
    refine ev_icmp_ge_t (tgt := 432) dL_undone_14 (by decide) (Int32.le_refl _) ?_
    exact ev_bu _ (by omega) (K k w A f Pq Ls v5 v6 v7 v8 hk hX hA hT hH hL hf)
  | succ n ih =>
    intro i k w A f Pq Ls v5 v6 v7 v8 hin hk hX hA hT hH hL hf
    have hi : i < 6 := by omega
    have hc := hf_lt (cel G (21 + i))
    refine ev_iload dL_undone_10 rfl ?_
    refine ev_bipush (v := nI 6) dL_undone_12 (by decide) ?_
    refine ev_icmp_ge_f (tgt := 432) dL_undone_14 (by decide) (nI_ge hi (by decide)) ?_
    refine ev_aload_n dL_undone_17 rfl ?_
    refine ev_bipush (v := nI 21) dL_undone_18 (by decide) ?_
    refine ev_iload dL_undone_20 rfl ?_
    refine ev_iadd dL_undone_22 ?_
    refine ev_top (nI_add _ _) ?_
    refine ev_callS (w := w) kL_155 (as := [.ref 1000, .int (nI (21 + i))]) (rest := []) (gL_cell (by omega) hN) dL_undone_23 rfl (by decide) (Nat.zero_le _) rfl ?_
    refine ev_iconst dL_undone_26 ic1 ?_
    refine ev_iushr dL_undone_27 (us_1 _) ?_
    generalize hf_ (cel G (21 + i)) = c at hc ⊢
    refine ev_ist5 dL_undone_28 (by decide) rfl ?_
    refine ev_iload dL_undone_30 rfl ?_
    refine ev_iconst dL_undone_32 ic4 ?_
    refine ev_iushr dL_undone_33 (us_v hc (s := 4) (by decide)) ?_
    refine ev_ist6 dL_undone_34 (by decide) rfl ?_
    refine ev_aload_n dL_undone_36 rfl ?_
    refine ev_iload_n dL_undone_37 rfl ?_
    refine ev_aload_n dL_undone_38 rfl ?_
    refine ev_callSP kL_343 (as := [.ref 0]) (rest := [.int (nI k), dy z]) (gL_sum hX) dL_undone_39 rfl (by decide) (by omega) rfl (fun r0 w2 hp => ?_)
    obtain ⟨rfl, hX, hT2⟩ := hp
    replace hT := hT2.trans hT
    refine ev_lastoreT (w := w2) (i := T0.length) (f := f) (T2 := T0 ++ [arL G z 7 (vp_updL f k (smF (aS A)))]) (by rw [hT]; exact tl0) dL_undone_42 rfl (by omega) (by decide) (by rw [hT]; exact ts0) ?_
    have hf' : ∀ j S, Ls[j]? = some S → vp_updL f k (smF (aS A)) j = smF S := fun j S hj => by
      have := (List.getElem?_eq_some_iff.mp hj).1
      rw [vL_n (by omega)]
      exact hf j S hj
    generalize hF : vp_updL f k (smF (aS A)) = F at hf' ⊢
    have hFk : F k = smF (aS A) := by rw [← hF]; exact vL_s
    have hX : aX A (w2.1, T0 ++ [arL G z 7 F]) := aX_of rfl hX
    have hlen : (Pq ++ Ls).length ≤ 6 := by rw [← hH]; exact hX.2.2.1.choose_spec.2.2.2.1
    have at369 : ∀ (w : WS) (A2 : AS) (v : Int32), aX A2 w → stpO A A2 v (c % 9 == 0) → (T0 ++ [arL G z 7 F]).Sublist w.2 → Ev G 23 (7500 * n + 300 + bb) mL_undone 369 [some (.ref 1000), some (.ref 0), some (dy z), some (.int (nI (k))), some (.int (nI (i))), some (.int (nI (c))), some (.int (nI (c / 2 ^ 4))), some (.int v), v8] [] w Z := by
      intro w A2 v hX hst hsub
      refine ev_tl (T' := T0 ++ [arL G z 7 F]) hsub ?_
      have hX : aX A2 (w.1, T0 ++ [arL G z 7 F]) := aX_of rfl hX
      obtain ⟨hA2, hst⟩ := hst
      have at413 : ∀ (w : WS) (B : Bool) (k2 : Nat) (P2 L2 : List ST), k + (if B = true then 1 else 0) = k2 → aX A2 w → w.2 = T0 ++ [arL G z 7 F] → aH A2 = P2 ++ L2 → L2.length = k2 → (∀ j S, L2[j]? = some S → F j = smF S) → Ev G 23 (7500 * n + bb) mL_undone 413 [some (.ref 1000), some (.ref 0), some (dy z), some (.int (nI (k))), some (.int (nI (i))), some (.int (nI (c))), some (.int (nI (c / 2 ^ 4))), some (.int v), some (.int (bI B))] [] w Z := by
        intro w B k2 P2 L2 hk2 hX hT hH2 hL2 hF2
        have at424 : ∀ x : Nat, k + x = k2 → Ev G 23 (7500 * n + bb) mL_undone 424 [some (.ref 1000), some (.ref 0), some (dy z), some (.int (nI (k))), some (.int (nI (i))), some (.int (nI (c))), some (.int (nI (c / 2 ^ 4))), some (.int v), some (.int (bI B))] [.int (nI x), .int (nI k)] w Z := by
          intro x hx
          refine ev_iadd dL_undone_424 ?_
          refine ev_top (nI_add _ _) ?_
          rw [hx]
          refine ev_ist3 dL_undone_425 (by decide) rfl ?_
          refine ev_iinc4 dL_undone_426 (nI_inc _) (by decide) rfl ?_
          refine ev_goto (tgt := 10) dL_undone_429 (by decide) ?_
          exact ih (i + 1) k2 w A2 F P2 L2 _ _ _ _ (by omega) (by split at hk2 <;> omega) hX hA2 hT hH2 hL2 hF2
        refine ev_iload_n dL_undone_413 rfl ?_
        refine ev_iload dL_undone_414 rfl ?_
        cases B with
        | true =>
          refine ev_if_eq_f (tgt := 423) dL_undone_416 (by decide) (by decide) ?_
          refine ev_iconst dL_undone_419 ic1 ?_
          refine ev_goto (tgt := 424) dL_undone_420 (by decide) ?_
          exact at424 1 hk2
        | false =>
          refine ev_if_eq_t (tgt := 423) dL_undone_416 (by decide) rfl ?_
          refine ev_iconst dL_undone_423 ic0 ?_
          exact at424 0 hk2
      rcases hst with ⟨s1, s2, s3, s4⟩ | ⟨s2, s3⟩
      · have at392 : Ev G 23 (7500 * n + 300 + bb) mL_undone 392 [some (.ref 1000), some (.ref 0), some (dy z), some (.int (nI (k))), some (.int (nI (i))), some (.int (nI (c))), some (.int (nI (c / 2 ^ 4))), some (.int v), v8] [] (w.1, T0 ++ [arL G z 7 F]) Z := by
          refine ev_iconst dL_undone_392 ic0 ?_
          refine ev_ist8 dL_undone_393 (by decide) rfl ?_
          refine ev_iload dL_undone_395 rfl ?_
          refine ev_if_ne_f (tgt := 413) dL_undone_397 (by decide) rfl ?_
          refine ev_aload_n dL_undone_400 rfl ?_
          refine ev_callSP kL_343 (as := [.ref 0]) (rest := []) (gL_sum hX) dL_undone_401 rfl (by decide) (by omega) rfl (fun r0 w2 hp => ?_)
          obtain ⟨rfl, hX, hT2⟩ := hp
          refine ev_topL (y := F k) (by rw [hFk, s1]) ?_
          refine ev_aload_n dL_undone_404 rfl ?_
          refine ev_iload_n dL_undone_405 rfl ?_
          refine ev_laloadT (w := w2) (i := T0.length) (f := F) (j := k) (by rw [hT2]; exact tl0) dL_undone_406 rfl (by omega) (by decide) ?_
          refine ev_lcmp dL_undone_407 ?_
          refine ev_top (lg_0 _) ?_
          refine ev_if_eq_t (tgt := 413) dL_undone_408 (by decide) rfl ?_
          exact ev_bu _ (by omega) (at413 w2 false k Pq Ls rfl hX hT2 (s2.trans hH) hL hf')
        refine ev_iload dL_undone_369 rfl ?_
        refine ev_if_ge_f (tgt := 388) dL_undone_371 (by decide) s3 ?_
        by_cases h1 : v = -1
        · 
          refine ev_iload dL_undone_374 rfl ?_
          refine ev_iconst dL_undone_376 icm1 ?_
          refine ev_icmp_ne_f (tgt := 392) dL_undone_377 (by decide) h1 ?_
          refine ev_iload dL_undone_380 rfl ?_
          refine ev_bipush (v := nI 9) dL_undone_382 (by decide) ?_
          refine ev_irem dL_undone_384 (by decide) ?_
          refine ev_top (pk_rem (by omega) (by decide) (by decide)) ?_
          have hq := s4 h1
          refine ev_if_ne_t (tgt := 392) dL_undone_385 (by decide) (fun q => by rw [(nI_eq (b := 0) (by omega) (by decide)).mp q] at hq; exact absurd hq (by decide)) ?_
          exact at392
        · 
          refine ev_iload dL_undone_374 rfl ?_
          refine ev_iconst dL_undone_376 icm1 ?_
          refine ev_icmp_ne_t (tgt := 392) dL_undone_377 (by decide) h1 ?_
          exact at392
      · have hk5 : Ls.length ≤ 5 := by omega
        obtain ⟨P2, hP2⟩ := push_ (S := aS A) hk5 hlen
        have at388 : Ev G 23 (7500 * n + 300 + bb) mL_undone 388 [some (.ref 1000), some (.ref 0), some (dy z), some (.int (nI (k))), some (.int (nI (i))), some (.int (nI (c))), some (.int (nI (c / 2 ^ 4))), some (.int v), v8] [] (w.1, T0 ++ [arL G z 7 F]) Z := by
          refine ev_iconst dL_undone_388 ic1 ?_
          refine ev_goto (tgt := 393) dL_undone_389 (by decide) ?_
          refine ev_ist8 dL_undone_393 (by decide) rfl ?_
          refine ev_iload dL_undone_395 rfl ?_
          refine ev_if_ne_t (tgt := 413) dL_undone_397 (by decide) (by decide) ?_
          refine ev_bu _ (by omega) (at413 _ true (k + 1) P2 (Ls ++ [aS A]) rfl hX rfl (by rw [s2, hH, hP2]) (by rw [List.length_append, hL]; rfl) (fun j S hj => ?_))
          rcases Nat.lt_or_ge j Ls.length with hjl | hjl
          · rw [List.getElem?_append_left hjl] at hj
            exact hf' j S hj
          · rw [List.getElem?_append_right hjl] at hj
            have hj0 : j - Ls.length = 0 := by
              rcases Nat.eq_zero_or_pos (j - Ls.length) with h | h
              · exact h
              · rw [List.getElem?_eq_none (by simp only [List.length_append, List.length_cons, List.length_nil, List.nil_append]; omega)] at hj
                cases hj
            rw [hj0] at hj
            have hj : some (aS A) = some S := hj
            rw [show j = k by omega, hFk, Option.some.inj hj]
        refine ev_iload dL_undone_369 rfl ?_
        rcases s3 with s3 | ⟨s3, s4⟩
        · refine ev_if_ge_t (tgt := 388) dL_undone_371 (by decide) s3 ?_
          exact at388
        · refine ev_if_ge_f (tgt := 388) dL_undone_371 (by decide) (by rw [s3]; decide) ?_
          refine ev_iload dL_undone_374 rfl ?_
          refine ev_iconst dL_undone_376 icm1 ?_
          refine ev_icmp_ne_f (tgt := 392) dL_undone_377 (by decide) s3 ?_
          refine ev_iload dL_undone_380 rfl ?_
          refine ev_bipush (v := nI 9) dL_undone_382 (by decide) ?_
          refine ev_irem dL_undone_384 (by decide) ?_
          refine ev_top (pk_rem (by omega) (by decide) (by decide)) ?_
          refine ev_if_ne_f (tgt := 392) dL_undone_385 (by decide) (by rw [show c % 9 = 0 from eq_of_beq s4]; rfl) ?_
          exact at388
    refine ev_iload dL_undone_43 rfl ?_
    refine ev_bipush (v := nI 9) dL_undone_45 (by decide) ?_
    refine ev_irem dL_undone_47 (by decide) ?_
    refine ev_top (pk_rem (by omega) (by decide) (by decide)) ?_
    have hm9 : c % 9 < 9 := Nat.mod_lt _ (by decide)
    have hsr : (T0 ++ [arL G z 7 F]).Sublist (w2.1, T0 ++ [arL G z 7 F]).2 := List.Sublist.refl _
    generalize hQ : c % 9 = Q9 at hm9
    obtain rfl | rfl | rfl | rfl | rfl | rfl | rfl | rfl | rfl : Q9 = 0 ∨ Q9 = 1 ∨ Q9 = 2 ∨ Q9 = 3 ∨ Q9 = 4 ∨ Q9 = 5 ∨ Q9 = 6 ∨ Q9 = 7 ∨ Q9 = 8 := by omega
    · refine ev_tableIn (tgt := 96) (off := 48) dL_undone_48 (by decide) (by decide) (by decide +kernel) (by decide) ?_
      exact ev_bu (1 + (7500 * n + 300 + bb)) (by omega) (gL_und_0 hX hA hsr hc (by rw [hQ]; rfl) (fun w A2 v h1 h2 h3 => at369 w A2 v h1 h2 h3))
    · refine ev_tableIn (tgt := 120) (off := 72) dL_undone_48 (by decide) (by decide) (by decide +kernel) (by decide) ?_
      exact ev_bu (1 + (7500 * n + 300 + bb)) (by omega) (gL_und_12 hX hA hsr hc (by rw [hQ]; rfl) (fun w A2 v h1 h2 h3 => at369 w A2 v h1 h2 h3))
    · refine ev_tableIn (tgt := 120) (off := 72) dL_undone_48 (by decide) (by decide) (by decide +kernel) (by decide) ?_
      exact ev_bu (1 + (7500 * n + 300 + bb)) (by omega) (gL_und_12 hX hA hsr hc (by rw [hQ]; rfl) (fun w A2 v h1 h2 h3 => at369 w A2 v h1 h2 h3))
    · refine ev_tableIn (tgt := 141) (off := 93) dL_undone_48 (by decide) (by decide) (by decide +kernel) (by decide) ?_
      exact ev_bu (1 + (7500 * n + 300 + bb)) (by omega) (gL_und_3 hX hA hsr hc (by rw [hQ]; rfl) (fun w A2 v h1 h2 h3 => at369 w A2 v h1 h2 h3))
    · refine ev_tableIn (tgt := 155) (off := 107) dL_undone_48 (by decide) (by decide) (by decide +kernel) (by decide) ?_
      exact ev_bu (2500 + (7500 * n + 300 + bb)) (by omega) (gL_und_4 hX hA hsr hc (by rw [hQ]; rfl) (fun w A2 v h1 h2 h3 => at369 w A2 v h1 h2 h3))
    · refine ev_tableIn (tgt := 220) (off := 172) dL_undone_48 (by decide) (by decide) (by decide +kernel) (by decide) ?_
      exact ev_bu (1 + (7500 * n + 300 + bb)) (by omega) (gL_und_5 hX hA hsr hc (by rw [hQ]; rfl) (fun w A2 v h1 h2 h3 => at369 w A2 v h1 h2 h3))
    · refine ev_tableIn (tgt := 233) (off := 185) dL_undone_48 (by decide) (by decide) (by decide +kernel) (by decide) ?_
      exact ev_bu (1 + (7500 * n + 300 + bb)) (by omega) (gL_und_6 hX hA hsr hc (by rw [hQ]; rfl) (fun w A2 v h1 h2 h3 => at369 w A2 v h1 h2 h3))
    · refine ev_tableIn (tgt := 255) (off := 207) dL_undone_48 (by decide) (by decide) (by decide +kernel) (by decide) ?_
      exact ev_bu (1 + (7500 * n + 300 + bb)) (by omega) (gL_und_7 hX hA hsr hc (by rw [hQ]; rfl) (fun w A2 v h1 h2 h3 => at369 w A2 v h1 h2 h3))
    · refine ev_tableOut (tgt := 268) dL_undone_48 (by decide) (by decide) ?_
      exact ev_bu (6500 + (7500 * n + 300 + bb)) (by omega) (gL_und_8 hX hA hsr hc (by rw [hQ]; rfl) (fun w A2 v h1 h2 h3 => at369 w A2 v h1 h2 h3))
theorem sp_undo {A : AS} {Pq Ls : List ST} {S : ST} (h : aH A = Pq ++ (Ls ++ [S])) : spUndo A = ((0, nI ((aH A).length - 1)), mkA S (aV A) (Pq ++ Ls) (aN A) (aT A) (aL A) (aK A) (aE A)) := by
  unfold spUndo
  rw [h, ← List.append_assoc, List.getLast?_concat, List.dropLast_concat]
theorem nx_d {j : Nat} : nI j + Int32.ofInt (-1) = (if j = 0 then -1 else nI (j - 1)) := by
  by_cases e : j = 0
  · rw [if_pos e, e]
    decide
  · rw [if_neg e]
    obtain ⟨q, rfl⟩ : ∃ q, j = q + 1 := ⟨j - 1, by omega⟩
    exact nI_dec q
set_option maxRecDepth 8000 in
theorem gL_und_u {G : GX} {bb : Nat} {T0 : va_W} {z k0 : Nat} {F : Nat → Int64} {v5 v6 v7 v8 : Option Value} {Z : ZT}
    (K : ∀ (w : WS) (A : AS), aX A w → w.2 = T0 ++ [arL G z 7 F] → Ev G 23 bb mL_undone 469 [some (.ref 1000), some (.ref 0), some (dy z), some (.int (nI (k0))), some (.int (-1)), v5, v6, v7, v8] [] w Z) :
    ∀ (j : Nat) (w : WS) (A : AS) (Pq Ls : List ST), j ≤ 6 → aX A w → w.2 = T0 ++ [arL G z 7 F] → aH A = Pq ++ Ls → Ls.length = j → (∀ i S, Ls[i]? = some S → F i = smF S) → Ev G 23 (300 * j + bb) mL_undone 437 [some (.ref 1000), some (.ref 0), some (dy z), some (.int (nI (k0))), some (.int (if j = 0 then -1 else nI (j - 1))), v5, v6, v7, v8] [] w Z := by
  intro j
  induction j with
  | zero =>
    intro w A Pq Ls hj hX hT hH hL hF
    rw [if_pos rfl]
    refine ev_iload dL_undone_437 rfl ?_
    refine ev_if_lt_t (tgt := 469) dL_undone_439 (by decide) (by decide) ?_
    exact ev_bu _ (by omega) (K w A hX hT)
  | succ j ih =>
    intro w A Pq Ls hj hX hT hH hL hF
    rw [if_neg (Nat.succ_ne_zero j), show j + 1 - 1 = j from rfl]
    obtain ⟨L2, S, rfl⟩ : ∃ L2 S, Ls = L2 ++ [S] := by
      rcases List.eq_nil_or_concat Ls with h | ⟨L2, S, h⟩
      · rw [h] at hL
        cases hL
      · exact ⟨L2, S, by rw [h, List.concat_eq_append]⟩
    have hL2 : L2.length = j := by rw [List.length_append] at hL; simpa using hL
    have hS : F j = smF S := hF j S (by rw [List.getElem?_append_right (by omega), hL2, Nat.sub_self]; rfl)
    have hlen : (aH A).length ≤ 6 := hX.2.2.1.choose_spec.2.2.2.1
    refine ev_iload dL_undone_437 rfl ?_
    refine ev_if_lt_f (tgt := 469) dL_undone_439 (by decide) (nI_pos (by omega)) ?_
    refine ev_aload_n dL_undone_442 rfl ?_
    refine ev_q kL_372 (as := [.ref 0]) (rest := []) (hL_undo hX) dL_undone_443 rfl (by decide) (by omega) rfl (fun w2 hX hT2 => ?_)
    rw [sp_undo hH] at hX ⊢
    refine ev_top (y := nI ((aH A).length - 1)) rfl ?_
    replace hT := hT2.trans hT
    refine ev_if_lt_f (tgt := 461) dL_undone_446 (by decide) (nI_pos (by omega)) ?_
    refine ev_aload_n dL_undone_449 rfl ?_
    refine ev_callSP kL_343 (as := [.ref 0]) (rest := []) (gL_sum hX) dL_undone_450 rfl (by decide) (by omega) rfl (fun r0 w2 hp => ?_)
    obtain ⟨rfl, hX, hT2⟩ := hp
    refine ev_topL (y := F j) hS.symm ?_
    replace hT := hT2.trans hT
    refine ev_aload_n dL_undone_453 rfl ?_
    refine ev_iload dL_undone_454 rfl ?_
    refine ev_laloadT (i := T0.length) (f := F) (j := j) (by rw [hT]; exact tl0) dL_undone_456 rfl (by omega) (by decide) ?_
    refine ev_lcmp dL_undone_457 ?_
    refine ev_top (lg_0 _) ?_
    refine ev_if_eq_t (tgt := 463) dL_undone_458 (by decide) rfl ?_
    refine ev_iinc4 dL_undone_463 nx_d (by decide) rfl ?_
    refine ev_goto (tgt := 437) dL_undone_466 (by decide) ?_
    exact ev_bu _ (by omega) (ih w2 _ Pq L2 (by omega) hX hT rfl hL2 (fun i S2 hi => hF i S2 (by rw [List.getElem?_append_left (List.getElem?_eq_some_iff.mp hi).1]; exact hi)))
set_option maxRecDepth 8000 in
theorem gL_undone {G : GX} {w : WS} {A : AS} (hN : gN G ≤ 260) (hX : aX A w) (hA : aN A = 0) : BigP G 23 50000 mL_undone [.ref 1000, .ref 0] w (fun r w2 => r = some (.int (nI 1)) ∧ w2.2 = w.2) := by
  refine bp_of (by decide +kernel) rfl (Nat.le_of_ble_eq_true rfl) ?_
  show Ev G 23 50000 mL_undone 0 [some (.ref 1000), some (.ref 0), none, none, none, none, none, none, none] [] w _
  refine ev_bipush (v := nI 7) dL_undone_0 (by decide) ?_
  refine ev_newaT (at_ := .long) (t := 3) (zz := .inr (.inl (fun _ => 0))) ac_l rfl rfl ra_l (fun _ => rfl) (by decide) (by decide) (by decide) dL_undone_2 (fun z => ?_)
  refine ev_ast2 dL_undone_4 (by decide) rfl ?_
  refine ev_iconst dL_undone_5 ic0 ?_
  refine ev_ist3 dL_undone_6 (by decide) rfl ?_
  refine ev_iconst dL_undone_7 ic0 ?_
  refine ev_ist4 dL_undone_8 (by decide) rfl ?_
  refine ev_bu (7500 * 6 + 3000) (by decide) (gL_und_i hN (T0 := w.2) (fun k w1 A f Pq Ls v5 v6 v7 v8 hk hX hA hT hH hL hf => ?_) 6 0 0 _ A (fun _ => 0) (aH A) [] _ _ _ _ rfl (Nat.le_refl _) (aX_of rfl hX) hA rfl (List.append_nil _).symm rfl (fun j S h => by cases h))
  refine ev_iload_n dL_undone_432 rfl ?_
  refine ev_iconst dL_undone_433 ic1 ?_
  refine ev_isub dL_undone_434 ?_
  refine ev_top (y := (if k = 0 then -1 else nI (k - 1))) (nx_s (by omega)) ?_
  refine ev_ist4 dL_undone_435 (by decide) rfl ?_
  refine ev_bu (300 * k + 100) (by omega) (gL_und_u (T0 := w.2) (fun w2 A hX hT => ?_) k w1 A Pq Ls hk hX hT hH hL hf)
  refine ev_tl (T' := w.2) (by rw [hT]; exact List.sublist_append_left _ _) ?_
  refine ev_iconst dL_undone_469 ic1 ?_
  exact ev_iretP dL_undone_470 rfl (by decide) ⟨rfl, rfl⟩
