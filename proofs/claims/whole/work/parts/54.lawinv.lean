/-! what the law keeps -/
def cA (A : AS) : Prop := cnS (aS A) ∧ (∀ V, aV A = some V → cnS V) ∧ ∀ V ∈ aH A, cnS V
theorem ca_push {H : List ST} {S : ST} (hS : cnS S) (hH : ∀ V ∈ H, cnS V) : ∀ V ∈ hPush H S, cnS V := by
  intro V hV
  unfold hPush at hV
  rcases List.mem_append.mp hV with h | h
  · split at h
    · exact hH V h
    · exact hH V (List.mem_of_mem_tail h)
  · cases List.mem_singleton.mp h
    exact hS
theorem ca_ch {A : AS} {k : Nat} {q : Cmd} (h : cA A) (hk : okS (aS A)) (ho : okC q) (ht : thC (aS A) q = true) : cA (spCh A k q).2 := by
  unfold spCh
  split
  · exact h
  · rename_i hg
    exact ⟨cn_do hk h.1 ho ht (Decidable.not_not.mp hg), h.2.1, ca_push h.1 h.2.2⟩
theorem r5_ix {y : Int32} (h : y = -1 ∨ (ixN 4 y).isSome = true) : r5 y := by
  rcases h with h | h
  · exact Or.inl h
  · rcases ixN_or 4 (by decide) y with ⟨-, e⟩ | ⟨j, hj, rfl, -⟩
    · rw [e] at h; cases h
    · exact Or.inr ⟨j, hj, rfl⟩
theorem ca_paint {A : AS} (h : cA A) (hk : okS (aS A)) {x y : Int32} : cA (spPaint A x y).2 := by
  unfold spPaint
  rcases ixN_or 64 (by decide) x with ⟨-, e⟩ | ⟨c, hc, rfl, e⟩
  · rw [e]; exact h
  · rw [e]
    dsimp only
    split
    · rename_i hy
      exact ca_ch h hk ⟨by omega, r5_ix hy⟩ (decide_eq_true hc)
    · exact h
theorem ca_shave {A : AS} (h : cA A) (hk : okS (aS A)) {x y : Int32} : cA (spShave A x y).2 := by
  unfold spShave
  rcases ixN_or 64 (by decide) x with ⟨-, e⟩ | ⟨c, hc, rfl, e⟩
  · rw [e]; exact h
  · rw [e]
    dsimp only
    rcases ixN_or 4 (by decide) y with ⟨-, e2⟩ | ⟨r, hr, rfl, e2⟩
    · rw [e2]; exact h
    · rw [e2]
      exact ca_ch h hk ⟨by omega, hr⟩ (decide_eq_true hc)
theorem ca_scale {A : AS} (h : cA A) (hk : okS (aS A)) {x : Int32} : cA (spScale A x).2 := by
  unfold spScale
  rcases ixN_or 10 (by decide) x with ⟨-, e⟩ | ⟨m, hm, rfl, e⟩
  · rw [e]; exact h
  · rw [e]
    dsimp only
    split
    · exact h
    · exact ca_ch h hk hm (decide_eq_true ⟨by omega, by omega⟩)
theorem ca_drop {A : AS} (h : cA A) (hk : okS (aS A)) {x : Int32} : cA (spDrop A x).2 := by
  unfold spDrop
  have h4 : nR (aS A) ≤ 4 := hk.2.1.1
  rcases ixN_or (nR (aS A)) (by omega) x with ⟨-, e⟩ | ⟨i, hi, rfl, e⟩
  · rw [e]; exact h
  · rw [e]
    exact ca_ch h hk (show i < 10 by omega) (decide_eq_true hi)
theorem ca_scare {A : AS} (h : cA A) (hk : okS (aS A)) {x : Int32} : cA (spScare A x).2 := by
  unfold spScare
  have h4 := hk.2.2.1.1
  rcases ixN_or (nD (aS A)) (by omega) x with ⟨-, e⟩ | ⟨i, hi, rfl, e⟩
  · rw [e]; exact h
  · rw [e]
    exact ca_ch h hk (show i < 10 by omega) (decide_eq_true hi)
theorem ca_dragon {A : AS} (h : cA A) (hk : okS (aS A)) {x y : Int32} : cA (spDragon A x y).2 := by
  unfold spDragon
  rcases ixN_or 64 (by decide) x with ⟨-, e⟩ | ⟨c, hc, rfl, e⟩
  · rw [e]; exact h
  · rw [e]
    dsimp only
    rcases ixN_or 51 (by decide) y with ⟨-, e2⟩ | ⟨p, hp, rfl, e2⟩
    · rw [e2]; exact h
    · rw [e2]
      dsimp only
      split
      · exact h
      · refine ca_ch h hk ⟨by omega, by omega⟩ ?_
        show (decide (c < 64) && decide (1 ≤ p ∧ p ≤ 50)) = true
        rw [decide_eq_true hc, decide_eq_true ⟨by omega, by omega⟩]
        rfl
theorem ca_C {A : AS} (h : cA A) : cA (aC A) := h
theorem ca_river {A : AS} (h : cA A) (hk : okS (aS A)) {x y : Int32} : cA (spRiver A x y).2 := by
  unfold spRiver
  rcases ixN_or 64 (by decide) x with ⟨-, e⟩ | ⟨c, hc, rfl, e⟩
  · rw [e]; exact h
  · rw [e]
    dsimp only
    rcases ixN_or 100 (by decide) y with ⟨-, e2⟩ | ⟨r, hr, rfl, e2⟩
    · rw [e2]; exact h
    · rw [e2]
      dsimp only
      split
      · rename_i hs
        exact ca_ch (A := aC A) h hk ⟨by omega, hr, by omega, (stN_le (Nat.zero_le _)).1, fun k hk => (stD_at hk).2⟩ (decide_eq_true hc)
      · exact h
theorem ca_rn : ∀ (L : List Cmd) (S : ST) (k : Nat), okS S → cnS S → (∀ c ∈ L, okC c) → cnS (rnC S k L).2.1 := by
  intro L
  induction L with
  | nil => intro S k hk h hL; exact h
  | cons q L ih =>
    intro S k hk h hL
    rw [rnC]
    split
    · exact h
    · rename_i ht
      have ht : thC S q = true := by
        cases e : thC S q with
        | true => rfl
        | false => exact absurd e ht
      split
      · exact h
      · rename_i hg
        have hg := Decidable.not_not.mp hg
        have hq := hL q (List.mem_cons_self)
        exact ih _ _ (ok_do hk hq ht hg) (cn_do hk h hq ht hg) (fun c hc => hL c (List.mem_cons_of_mem _ hc))
theorem ca_read {A : AS} (h : cA A) (hk : okS (aS A)) : cA (spRead A).2 := by
  unfold spRead
  split
  · exact h
  · split
    · exact h
    · split
      · exact h
      · refine ⟨ca_rn _ _ _ hk h.1 (fun c hc => ?_), h.2.1, ca_push h.1 h.2.2⟩
        obtain ⟨i, hi⟩ := List.getElem?_of_mem hc
        exact cms_ok (Nat.zero_le _) i c hi
theorem ca_undo {A : AS} (h : cA A) (_hk : okS (aS A)) : cA (spUndo A).2 := by
  unfold spUndo
  split
  · exact h
  · rename_i T e
    exact ⟨h.2.2 T (List.mem_of_getLast? e), h.2.1, fun V hV => h.2.2 V ((List.dropLast_subset _) hV)⟩
theorem ca_save {A : AS} (h : cA A) (_hk : okS (aS A)) : cA (spSave A).2 := ⟨h.1, fun V hV => by cases hV; exact h.1, h.2.2⟩
theorem ca_restore {A : AS} (h : cA A) (_hk : okS (aS A)) : cA (spRest A).2 := by
  unfold spRest
  split
  · exact h
  · rename_i T e
    exact ⟨h.2.1 T e, h.2.1, fun V hV => by cases hV⟩
theorem ca_row {A : AS} (h : cA A) (_hk : okS (aS A)) {x : Int32} : cA (spRow A x).2 := by
  unfold spRow
  (repeat' split) <;> exact h
theorem ca_tell {A : AS} (h : cA A) (_hk : okS (aS A)) {x : Int32} : cA (spTell A x).2 := by
  unfold spTell
  (repeat' split) <;> exact h
theorem ca_character {A : AS} (h : cA A) (_hk : okS (aS A)) {x : Int32} : cA (spChar A x).2 := by
  unfold spChar
  (repeat' split) <;> exact h
theorem ca_account {A : AS} (h : cA A) (_hk : okS (aS A)) {x : Int32} : cA (spAcc A x).2 := by
  unfold spAcc
  (repeat' split) <;> exact h
theorem ca_append {A : AS} (h : cA A) (_hk : okS (aS A)) {c : Nat} : cA (spApp A c).2 := by
  unfold spApp
  (repeat' split) <;> exact h
theorem ca_errorPosition {A : AS} (h : cA A) (_hk : okS (aS A))  : cA (spErr A).2 := by
  unfold spErr
  (repeat' split) <;> exact h
theorem ca_reason {A : AS} (h : cA A) (_hk : okS (aS A)) {x : Int32} {b : Bool} : cA (spRea A x b).2 := by
  unfold spRea
  (repeat' split) <;> exact h
/-- the class and the reference hold the same -/
def LI (A : AS) (w : WS) : Prop := aX A w ∧ mX A w ∧ cA A
theorem mX_k {A : AS} {w x : WS} (h : mX A w) (hf : ∀ k, 114 < k → x.1 k = w.1 k) : mX A x := by
  obtain ⟨g1, g2, g3, g4, g5, g6, g7, g8⟩ := h
  have e115 := hf 115 (by decide)
  refine ⟨mRe g1 (hf 116 (by decide)), ⟨fun z => by rw [e115]; exact g2.1 z, fun V hV => ⟨by rw [e115]; exact (g2.2 V hV).1, by rw [hf 118 (by decide)]; exact (g2.2 V hV).2.1, (g2.2 V hV).2.2⟩⟩, ⟨by rw [e115]; exact g3.1, g3.2.1, fun i V hV => ⟨by rw [hf 119 (by decide)]; exact (g3.2.2 i V hV).1, (g3.2.2 i V hV).2⟩⟩, ⟨by rw [e115]; exact g4.1, g4.2.1, fun i hi => by rw [hf 123 (by decide)]; exact g4.2.2 i hi⟩, ⟨by rw [e115]; exact g5.1, g5.2.1, fun i v hv => by rw [hf 122 (by decide)]; exact g5.2.2 i v hv⟩, by rw [hf 120 (by decide)]; exact g6, by rw [e115]; exact g7, g8⟩
theorem li_of {A : AS} {w1 w2 : WS} (h1 : aX A w1) (hf : frG [(115, 124)] w1 w2) (h2 : mX A w2) (hc : cA A) : LI A w2 := ⟨aXG h1 hf (by decide), h2, hc⟩
theorem lc_v {k : Nat} {a v : Int32} {w1 w2 : WS} (hv1 : k = 0 → w1.2.1 = a.toInt64) (hv2 : k = 0 → v = a) (hf : w2.2 = w1.2) (hk : k = 0) : lg_cmp w2.2.1 v.toInt64 = 0 := by
  rw [hf, hv1 hk, hv2 hk]
  unfold lg_cmp
  rw [if_neg (fun z => absurd z (Int64.lt_irrefl)), if_pos rfl]
theorem lg_rf (a : Int64) : lg_cmp a a = 0 := by
  unfold lg_cmp
  rw [if_neg (fun z => absurd z (Int64.lt_irrefl)), if_pos rfl]
theorem f2_ok : ∀ a : Fin 65, vf_n64 (FP.f2d (FP.fdiv (FP.i2f (nI a.val)) 1115684864)) := by unfold vf_n64; decide +kernel
abbrev mL_law : MT := (yL_law, cL_law, 10, (Option.some FieldType.boolean), [])
/-- the law's places between two calls -/
abbrev lq_ (i : Nat) : List (Option Value) := [some (.ref 1000), some (.ref 0), some (.ref 115), some (.ref 125), some (.ref 126), some (.int (nI i)), none, none, none, none]
theorem lq_fg {G : GX} {d b : Nat} {M : MT} {pc : Nat} {w : WS} {Z : ZT} {i : Nat} {x6 x7 x8 x9 : Option Value} (K : Ev G d b M pc (lq_ i) [] w Z) : Ev G d b M pc [some (.ref 1000), some (.ref 0), some (.ref 115), some (.ref 125), some (.ref 126), some (.int (nI i)), x6, x7, x8, x9] [] w Z := ev_sub _ (fun k v h => by
  match k, h with
  | 0, h => exact h
  | 1, h => exact h
  | 2, h => exact h
  | 3, h => exact h
  | 4, h => exact h
  | 5, h => exact h
  | 6, h => cases h
  | 7, h => cases h
  | 8, h => cases h
  | 9, h => cases h
  | k + 10, h => cases h) K
set_option maxRecDepth 4000 in
theorem qX12_thrown {G : GX} {w : WS} {k : Nat} (h : w.1 115 6 = nI k) : Big G 1 0 mX12_thrown [.ref 115] w (.inl (some (.int (nI k)))) w := by
  refine big_of (by decide +kernel) (Nat.le_of_ble_eq_true rfl) ?_
  show Ev G 1 0 mX12_thrown 0 [some (.ref 115)] [] w _
  refine ev_aload_n dX12_thrown_0 rfl ?_
  refine ev_getI fX12_43 dX12_thrown_1 (by decide) sh115 rfl ?_
  refine ev_top h ?_
  exact ev_iret dX12_thrown_4 rfl rfl rfl rfl
