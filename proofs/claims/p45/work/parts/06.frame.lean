/-! the tables' good words: one list for every method -/
/-- which private methods of AbstractStringBuilder a StringBuilder's calls select: told by the tables' other words -/
def gx_ : List Cond := [.selects RJ4 yJ5_newCapacity_0f7a4 yJ5_newCapacity_0f7a4, .selects RJ4 yJ5_ensureCapacityInternal_d00df yJ5_ensureCapacityInternal_d00df, .selects RJ4 yJ5_putStringAt_47b60 yJ5_putStringAt_47b60, .selects RJ4 yJ5_inflateIfNeededFor_a7421 yJ5_inflateIfNeededFor_a7421]
def gd_ : List Cond := (lw_tbl ++ gx_).filter goodWord
theorem gd_w {w : Cond} (h : w ∈ lw_tbl) (hg : goodWord w = true) : w ∈ gd_ := List.mem_filter.mpr ⟨List.mem_append_left _ h, hg⟩
theorem gd_x {w : Cond} (i : Nat) (h : gx_[i]? = some w) (hg : goodWord w = true) : w ∈ gd_ := List.mem_filter.mpr ⟨List.mem_append_right _ (List.mem_of_getElem? h), hg⟩
theorem gd_tbl {w : Cond} (h : w ∈ gd_) : w ∈ lw_tbl ∨ w ∈ gx_ := List.mem_append.mp (List.mem_filter.mp h).1
theorem gd_good {w : Cond} (h : w ∈ gd_) : goodWord w = true := (List.mem_filter.mp h).2
theorem gd_t {w : Cond} (i : Nat) (h : tables_1[i]? = some w) (hg : goodWord w = true) : w ∈ gd_ := gd_w (List.mem_append_right _ (List.mem_of_getElem? h)) hg
theorem gd_p {w : Cond} (i : Nat) (h : (k2_sels lw_privs)[i]? = some w) (hg : goodWord w = true) : w ∈ gd_ := gd_w (List.mem_append_left _ (List.mem_of_getElem? h)) hg
def cw_ (M : MT) : Cond := if M.2.2.2.2 = [] then .code M.1 M.2.1 M.2.2.1 M.2.2.2.1 else .codeWith M.1 M.2.1 M.2.2.1 M.2.2.2.1 M.2.2.2.2
def ws_ (M : MT) : List Cond := cw_ M :: gd_
theorem ws_in {X : MT} {M : MT} (h : cw_ M ∈ gd_) : GoodIn (ws_ X) (ws_ M) := fun w hw => by
  rcases List.mem_cons.mp hw with rfl | hw
  · exact ⟨List.mem_cons_of_mem _ h, good_of_word (gd_good h)⟩
  · exact ⟨List.mem_cons_of_mem _ hw, good_of_word (gd_good hw)⟩
theorem gd_in {M : MT} (h : cw_ M ∈ gd_) : GoodIn gd_ (ws_ M) := fun w hw => by
  rcases List.mem_cons.mp hw with rfl | hw
  · exact ⟨h, good_of_word (gd_good h)⟩
  · exact ⟨hw, good_of_word (gd_good hw)⟩
/-! the world: 115 cells, laid once; what changes is numbers -/
abbrev WS : Type := (Nat → Nat → Int32) × va_W
def cs_ (w : WS) (k : Nat) (f : Nat → Int32) : WS := (fun k' => if k' = k then f else w.1 k', w.2)
theorem cs_same (w : WS) (k : Nat) (f : Nat → Int32) : (cs_ w k f).1 k = f := by simp [cs_]
theorem cs_ne (w : WS) {k k' : Nat} (f : Nat → Int32) (h : k' ≠ k) : (cs_ w k f).1 k' = w.1 k' := by simp [cs_, h]
def chartLens : List Nat := [64, 4, 4, 4, 52, 4, 4, 5, 5, 5]
/-- what a cell is: an object (its class, its fields: none is a number, some r the cell r) or an array (its type, its length) -/
def shp (k : Nat) : (Nat × List (Option Nat)) ⊕ (Nat × Nat) :=
  if k = 0 then .inl (10, [some 1, some 12, some 23, none, some 100, some 102, some 106, some 104, some 107, some 109, some 112, none])
  else if k < 100 then (if (k - 1) % 11 = 0 then .inl (3, [some (k + 1), some (k + 2), some (k + 3), some (k + 4), some (k + 5), some (k + 6), some (k + 7), some (k + 8), some (k + 9), some (k + 10), none, none, none, none, none, none, none]) else .inr (0, chartLens.getD ((k - 1) % 11 - 1) 0))
  else match k with
  | 100 => .inl (5, [some 101, none, none])
  | 101 => .inr (5, 6)
  | 102 => .inl (4, [none, none, none, none, some 103])
  | 103 => .inr (0, 12)
  | 104 => .inl (9, [some 105, none])
  | 105 => .inr (1, 60)
  | 106 => .inl (7, [some 104, none])
  | 107 => .inl (9, [some 108, none])
  | 108 => .inr (1, 60)
  | 109 => .inl (8, [some 110, some 111, none])
  | 110 => .inr (0, 3)
  | 111 => .inr (0, 3)
  | 112 => .inl (6, [some 113, some 114])
  | 113 => .inr (0, 64)
  | _ => .inr (0, 64)

abbrev GX : Type := Launch × va_G × (Nat → Nat) × (Nat → ClassId) × Nat × Nat × (Nat → Int32)
abbrev gL (G : GX) : Launch := G.1
abbrev gD (G : GX) : va_G := G.2.1
abbrev gA (G : GX) : Nat → Nat := G.2.2.1
abbrev gC (G : GX) : Nat → ClassId := G.2.2.2.1
abbrev gZ (G : GX) : Nat := G.2.2.2.2.1
abbrev gN (G : GX) : Nat := G.2.2.2.2.2.1
abbrev gX (G : GX) : Nat → Int32 := G.2.2.2.2.2.2
def fr_ (G : GX) : Nat → Prop := fun q => gZ G ≤ q
def cv_ (G : GX) : Value → Value
  | .ref k => .ref (gA G k)
  | v => v
theorem cv_cat (G : GX) (v : Value) : (cv_ G v).category = v.category := by cases v <;> rfl
theorem cv_sum (G : GX) (l : List Value) : ((l.map (cv_ G)).map fun v => v.category) = l.map fun v => v.category := by
  rw [List.map_map]
  exact List.map_congr_left fun v _ => cv_cat G v
def tys_ (G : GX) : List (ClassId × FieldType) := [(gC G 0, .int), (gC G 1, .char), (gC G 2, .byte), (gC G 3, .long), (gC G 4, .int), (gC G 5, .object "MapScales$Chart")]
def fv_ (G : GX) (w : WS) (k j : Nat) : Option Nat → Value
  | none => .int (w.1 k j)
  | some r => .ref (gA G r)
def ar_ (G : GX) (w : WS) (k : Nat) : Nat → (Nat → Int32) ⊕ (Nat → Int64) ⊕ (Nat → UInt32) ⊕ (Nat → UInt64) ⊕ (Nat → Option Nat)
  | 0 => .inl (w.1 k)
  | 1 => .inl (w.1 k)
  | 2 => .inl (w.1 k)
  | 3 => .inl (w.1 k)
  | 4 => .inl (w.1 k)
  | _ => .inr (.inr (.inr (.inr (fun j => some (gA G (34 + 11 * j))))))
def ce_ (G : GX) (w : WS) (k : Nat) : va_E := match shp k with
  | .inl o => .inr (o.1, o.2.mapIdx (fun j f => fv_ G w k j f))
  | .inr a => .inl (gC G a.1, a.2, ar_ G w k a.1)
def wl0 (G : GX) (w : WS) : va_W := (List.range 115).map (fun k => (gA G k, ce_ G w k))
/-- the world: the object's cells, and a tail of cells that were made since -/
def wl_ (G : GX) (w : WS) : va_W := wl0 G w ++ w.2
theorem wl0_len (G : GX) (w : WS) : (wl0 G w).length = 115 := by simp [wl0]
theorem wl0_get (G : GX) (w : WS) {k : Nat} (h : k < 115) : (wl0 G w)[k]? = some (gA G k, ce_ G w k) := by
  simp [wl0, h]
theorem wl_get (G : GX) (w : WS) {k : Nat} (h : k < 115) : (wl_ G w)[k]? = some (gA G k, ce_ G w k) := by
  unfold wl_
  rw [List.getElem?_append_left (by rw [wl0_len]; exact h), wl0_get G w h]
theorem wl_tl (G : GX) (w : WS) (i : Nat) : (wl_ G w)[115 + i]? = w.2[i]? := by
  unfold wl_
  rw [List.getElem?_append_right (by rw [wl0_len]; omega), wl0_len, show 115 + i - 115 = i by omega]
theorem wl0_inv {G : GX} {w : WS} {k : Nat} {q : Nat × va_E} (h : (wl0 G w)[k]? = some q) : k < 115 ∧ q = (gA G k, ce_ G w k) := by
  have hk : k < 115 := by
    have := (List.getElem?_eq_some_iff.mp h).1
    rwa [wl0_len] at this
  rw [wl0_get G w hk] at h
  exact ⟨hk, (Option.some.inj h).symm⟩
/-- apartness is a matter of the addresses -/
theorem wd_a {A : Nat → Prop} {ws ws' : va_W} (h : va_D A ws) (he : ws'.map Prod.fst = ws.map Prod.fst) : va_D A ws' := by
  have hg : ∀ (k : Nat) (q : Nat × va_E), ws'[k]? = some q → ∃ q', ws[k]? = some q' ∧ q'.1 = q.1 := by
    intro k q hk
    have h1 : (ws'.map Prod.fst)[k]? = some q.1 := by rw [List.getElem?_map, hk]; rfl
    rw [he, List.getElem?_map] at h1
    cases hx : ws[k]? with
    | none => rw [hx] at h1; cases h1
    | some q' => rw [hx] at h1; exact ⟨q', rfl, Option.some.inj h1⟩
  refine ⟨fun i j p q hi hj hpq => ?_, fun k q hk => ?_⟩
  · obtain ⟨p', h1, e1⟩ := hg i p hi
    obtain ⟨q', h2, e2⟩ := hg j q hj
    exact h.1 i j p' q' h1 h2 (by rw [e1, e2]; exact hpq)
  · obtain ⟨q', h1, e1⟩ := hg k q hk
    rw [← e1]
    exact h.2 k q' h1
theorem wl0_fst (G : GX) (w : WS) : (wl0 G w).map Prod.fst = (List.range 115).map (gA G) := by
  unfold wl0
  rw [List.map_map]
  rfl
theorem wd_c {G : GX} {w w' : WS} (h : va_D (fr_ G) (wl_ G w)) (h2 : w'.2 = w.2) : va_D (fr_ G) (wl_ G w') := by
  refine wd_a h ?_
  unfold wl_
  rw [List.map_append, List.map_append, wl0_fst, wl0_fst, h2]
/-- the strings that the reference tells by their places -/
def sB : List (List Int32) := [[], [110, 101, 115, 119], [65, 66, 67, 68], [97, 98, 99, 100], [58], [110], [101], [115], [119], [61], [63], [120], [112], [98, 59, 112], [46], [59, 102], [59, 114, 57, 58, 101, 115, 61, 55]]
def sN : List Nat := [0, 4, 4, 4, 1, 1, 1, 1, 1, 1, 1, 1, 1, 3, 1, 2, 8]
def sK : List (Nat × String) := [(172, ""), (180, "nesw"), (302, "ABCD"), (304, "abcd"), (315, ":"), (317, "n"), (319, "e"), (321, "s"), (323, "w"), (325, "="), (327, "?"), (353, "x"), (359, "p"), (361, "b;p"), (363, "."), (365, ";f"), (367, ";r9:es=7")]
/-- the strings that the law names, by their places -/
def vS_ (N : Nat) (len : List Nat) (byt : List (List Int32)) (adK adV : Nat → Nat) (A : Nat → Prop) (U : State) (H : Heap) : Prop :=
  ∀ i : Nat, i < N → va_O "java/lang/String" (adK i) A U H ∧ va_OF "java/lang/String" "coder" "B" (.int 0) (adK i) A U H ∧ va_OF "java/lang/String" "value" "[B" (.ref (adV i)) (adK i) A U H ∧ va_T .byte (adV i) (len.getD i 0) (fun j => .int ((byt.getD i []).getD j 0)) A U H
theorem vS_.moved {N : Nat} {len : List Nat} {byt : List (List Int32)} {adK adV : Nat → Nat} {A : Nat → Prop} {u U : State} {H : Heap} (hvm : u.vm.Alike U.vm) (h : vS_ N len byt adK adV A u H) : vS_ N len byt adK adV A U H :=
  fun i hi => ⟨va_O.moved hvm (h i hi).1, va_OF.moved hvm (h i hi).2.1, va_OF.moved hvm (h i hi).2.2.1, va_T.moved hvm (h i hi).2.2.2⟩
theorem vS_.kept {N : Nat} {len : List Nat} {byt : List (List Int32)} {adK adV : Nat → Nat} {A : Nat → Prop} {U : State} {H H1 : Heap} (h : vS_ N len byt adK adV A U H) (hq : ∀ a : Nat, a < H.size → ¬ A a → H1[a]? = H[a]?) : vS_ N len byt adK adV A U H1 :=
  fun i hi => ⟨(h i hi).1.kept hq, (h i hi).2.1.kept hq, (h i hi).2.2.1.kept hq, (h i hi).2.2.2.kept hq⟩
/-- the digits' tables of Integer -/
def dgO (j : Nat) : Int32 := nI (48 + j % 10)
def dgT (j : Nat) : Int32 := nI (48 + j / 10)
def vD_ (nm : String) (f : Nat → Int32) (ad : Nat) (A : Nat → Prop) (U : State) (H : Heap) : Prop := va_Z "java/lang/Integer" nm "[B" (.ref ad) A U H ∧ va_T .byte ad 100 (fun j => .int (f j)) A U H
theorem vD_.moved {nm : String} {f : Nat → Int32} {ad : Nat} {A : Nat → Prop} {u U : State} {H : Heap} (hvm : u.vm.Alike U.vm) (h : vD_ nm f ad A u H) : vD_ nm f ad A U H := ⟨va_Z.moved hvm h.1, va_T.moved hvm h.2⟩
theorem vD_.kept {nm : String} {f : Nat → Int32} {ad : Nat} {A : Nat → Prop} {U : State} {H H1 : Heap} (h : vD_ nm f ad A U H) (hq : ∀ a : Nat, a < H.size → ¬ A a → H1[a]? = H[a]?) : vD_ nm f ad A U H1 := ⟨h.1.kept hq, h.2.kept hq⟩
def ncs_ : List (String × String) := [("java/lang/IndexOutOfBoundsException", "java/lang/IllegalArgumentException"), ("java/lang/IndexOutOfBoundsException", "java/lang/IllegalStateException"), ("java/lang/IndexOutOfBoundsException", "java/lang/UnsupportedOperationException"), ("java/lang/IndexOutOfBoundsException", "java/util/NoSuchElementException"), ("java/lang/IllegalArgumentException", "java/lang/IndexOutOfBoundsException"), ("java/lang/IllegalArgumentException", "java/lang/IllegalStateException"), ("java/lang/IllegalArgumentException", "java/lang/UnsupportedOperationException"), ("java/lang/IllegalArgumentException", "java/util/NoSuchElementException"), ("java/lang/IllegalStateException", "java/lang/IndexOutOfBoundsException"), ("java/lang/IllegalStateException", "java/lang/IllegalArgumentException"), ("java/lang/IllegalStateException", "java/lang/UnsupportedOperationException"), ("java/lang/IllegalStateException", "java/util/NoSuchElementException"), ("java/lang/UnsupportedOperationException", "java/lang/IndexOutOfBoundsException"), ("java/lang/UnsupportedOperationException", "java/lang/IllegalArgumentException"), ("java/lang/UnsupportedOperationException", "java/lang/IllegalStateException"), ("java/lang/UnsupportedOperationException", "java/util/NoSuchElementException"), ("java/util/NoSuchElementException", "java/lang/IndexOutOfBoundsException"), ("java/util/NoSuchElementException", "java/lang/IllegalArgumentException"), ("java/util/NoSuchElementException", "java/lang/IllegalStateException"), ("java/util/NoSuchElementException", "java/lang/UnsupportedOperationException"), ("java/lang/ArithmeticException", "java/lang/IndexOutOfBoundsException"), ("java/lang/ArithmeticException", "java/lang/IllegalArgumentException"), ("java/lang/ArithmeticException", "java/lang/IllegalStateException"), ("java/lang/ArithmeticException", "java/lang/UnsupportedOperationException"), ("java/lang/ArithmeticException", "java/util/NoSuchElementException")]
/-- words that the tables tell, carried on by laws of their own -/
def nw_ : Cond → Bool
  | .castable .. => true
  | .declares .. => true
  | _ => false
theorem nw_warm {w : Cond} (h : nw_ w = true) {s U : State} (hW : s.WarmedH U.vm) (hZ : va_Nw w s) : va_Nw w U := by
  unfold nw_ at h
  split at h
  · exact hZ.warmC hW
  · exact hZ.warmD hW
  · cases h
theorem nw_tab {w : Cond} (h : nw_ w = true) : w.onTables = true := by
  unfold nw_ at h
  split at h
  · rfl
  · rfl
  · cases h
/-- what holds of the start, at a state: nothing of it is ever written -/
def bs_ (G : GX) (U : State) (H : Heap) : Prop :=
  va_K (gD G) vwCl (tys_ G) U ∧ (va_X (gA G 1000) (gN G) (gX G) U H ∧ gZ G ≤ H.size) ∧ vx_Zq Bundle.tN "UNASSIGNED_STACK" Bundle.steD (fr_ G) U H ∧ vx_Zq Bundle.tN "SUPPRESSED_SENTINEL" Bundle.listD (fr_ G) U H ∧
  vS_ 17 sN sB (fun i => gA G (2000 + i)) (fun i => gA G (3000 + i)) (fr_ G) U H ∧ ((vD_ "DigitOnes" dgO (gA G 4001) (fr_ G) U H ∧ vD_ "DigitTens" dgT (gA G 4002) (fr_ G) U H ∧ va_Z "java/lang/String" "COMPACT_STRINGS" "Z" (.int 1) (fr_ G) U H) ∧ ∃ x : Value, (x = .null ∨ x = .ref 4000) ∧ va_Z "jdk/internal/util/Preconditions" "SIOOBE_FORMATTER" "Ljava/util/function/BiFunction;" (cv_ G x) (fr_ G) U H) ∧
  (∀ own k tx, Cond.stringRef own k tx ∈ tables_1 → ∃ a, vk_R own k tx a U) ∧
  (∀ i k tx, sK[i]? = some (k, tx) → vk_R "MapScalesLaw" k tx (gA G (2000 + i)) U) ∧
  (∀ q ∈ ncs_, va_Nc q.1 q.2 U) ∧ (∀ own k y h, Cond.methodLinkNest own k y h ∈ tables_1 → va_Nw (.methodLinkNest own k y h) U) ∧ (∀ w, w ∈ tables_1 → nw_ w = true → va_Nw w U)
def ok_G (G : GX) : Prop := (gL G).stackTraces = false ∧ (∀ i j, i < 115 → j < 115 → gA G i = gA G j → i = j) ∧ (∀ i, i < 115 → gZ G ≤ gA G i) ∧ gA G 1000 < gZ G ∧ ∀ a, gA G (10000 + a) = a
/-! EV -/
theorem chl_lt (j : Nat) : chartLens.getD j 0 < 1000 := by
  rcases Nat.lt_or_ge j 10 with h | h
  · exact (by decide : ∀ j, j < 10 → chartLens.getD j 0 < 1000) j h
  · rw [List.getD_eq_getElem?_getD, List.getElem?_eq_none (by simpa [chartLens] using h)]
    decide
theorem shp_lt {k t n : Nat} (h : shp k = .inr (t, n)) : n < 1000 := by
  unfold shp at h
  split at h
  · cases h
  · split at h
    · split at h
      · cases h
      · cases h
        exact chl_lt _
    · split at h <;> first | (cases h; done) | (cases h; decide)
theorem ce_arr {G : GX} {w : WS} {k t n : Nat} (h : shp k = .inr (t, n)) : ce_ G w k = .inl (gC G t, n, ar_ G w k t) := by
  simp [ce_, h]
theorem ce_obj {G : GX} {w : WS} {k ci : Nat} {fs : List (Option Nat)} (h : shp k = .inl (ci, fs)) : ce_ G w k = .inr (ci, fs.mapIdx (fun j f => fv_ G w k j f)) := by
  simp [ce_, h]
theorem ce_congr {G : GX} {w w' : WS} {k : Nat} (h : w'.1 k = w.1 k) : ce_ G w' k = ce_ G w k := by
  unfold ce_
  split
  · congr 2
    apply List.mapIdx_eq_mapIdx_iff.mpr
    intro i hi
    unfold fv_
    split <;> simp [h]
  · congr 3
    unfold ar_
    split <;> simp [h]
theorem wl_set {G : GX} {w w' : WS} {k : Nat} {e : va_E} (hk : k < 115) (he : ce_ G w' k = e) (ho : ∀ j, j < 115 → j ≠ k → ce_ G w' j = ce_ G w j) (h2 : w'.2 = w.2) : (wl_ G w).set k (gA G k, e) = wl_ G w' := by
  unfold wl_
  rw [List.set_append_left _ _ (by rw [wl0_len]; exact hk), h2]
  congr 1
  apply List.ext_getElem?
  intro j
  rw [List.getElem?_set]
  rcases Nat.lt_or_ge j 115 with h | h
  · rw [wl0_get G w' h, wl0_get G w h]
    by_cases hj : k = j
    · subst hj
      rw [if_pos rfl, if_pos (by rw [wl0_len]; exact h), he]
    · rw [if_neg hj, ho j h (fun q => hj q.symm)]
  · have h1 : (wl0 G w')[j]? = none := List.getElem?_eq_none (by rw [wl0_len]; exact h)
    have h2 : (wl0 G w)[j]? = none := List.getElem?_eq_none (by rw [wl0_len]; exact h)
    rw [h1, h2]
    split
    · rw [if_neg (by rw [wl0_len]; omega)]
    · rfl
/-! locals -/
def pr_ (G : GX) : Nat → List (Option Value) → List (Nat × Value)
  | _, [] => []
  | k, none :: r => pr_ G (k + 1) r
  | k, some v :: r => (k, cv_ G v) :: pr_ G (k + 1) r
theorem pr_mem {G : GX} {l : List (Option Value)} {k : Nat} {q : Nat × Value} : q ∈ pr_ G k l ↔ ∃ i v, l[i]? = some (some v) ∧ q = (k + i, cv_ G v) := by
  induction l generalizing k with
  | nil => simp [pr_]
  | cons a r ih =>
    have hstep : (∃ i v, (a :: r)[i]? = some (some v) ∧ q = (k + i, cv_ G v)) ↔ ((∃ v, a = some v ∧ q = (k, cv_ G v)) ∨ ∃ i v, r[i]? = some (some v) ∧ q = (k + 1 + i, cv_ G v)) := by
      constructor
      · rintro ⟨i, v, h1, h2⟩
        cases i with
        | zero => exact Or.inl ⟨v, by simpa using h1, by simpa using h2⟩
        | succ i => exact Or.inr ⟨i, v, by simpa using h1, by rw [h2]; congr 1; omega⟩
      · rintro (⟨v, h1, h2⟩ | ⟨i, v, h1, h2⟩)
        · exact ⟨0, v, by simp [h1], by simpa using h2⟩
        · exact ⟨i + 1, v, by simpa using h1, by rw [h2]; congr 1; omega⟩
    rw [hstep, ← ih]
    cases a with
    | none => simp [pr_]
    | some v => simp [pr_]
def ls_ (G : GX) (n : Nat) (lsA : Array Slot) (ls : List (Option Value)) : Prop := lv_has lsA n (pr_ G 0 ls)
theorem ls_at {G : GX} {n : Nat} {lsA : Array Slot} {ls : List (Option Value)} {i : Nat} {v : Value} (h : ls_ G n lsA ls) (hi : ls[i]? = some (some v)) : lsA[i]? = some (.val (cv_ G v)) :=
  h.2.2 (i, cv_ G v) (pr_mem.mpr ⟨i, v, hi, by simp⟩)
theorem ls_sub {G : GX} {n : Nat} {lsA : Array Slot} {ls ls' : List (Option Value)} (h : ls_ G n lsA ls) (hs : ∀ (i : Nat) (v : Value), ls'[i]? = some (some v) → ls[i]? = some (some v)) : ls_ G n lsA ls' :=
  ⟨h.1, h.2.1, fun q hq => by
    obtain ⟨i, v, h1, h2⟩ := pr_mem.mp hq
    exact h.2.2 q (pr_mem.mpr ⟨i, v, hs i v h1, h2⟩)⟩
/-- no value of two slots stands just ahead of place i -/
def c1_ (ls : List (Option Value)) (i : Nat) : Bool := match i with
  | 0 => true
  | j + 1 => match ls[j]? with
    | some (some v) => v.category == 1
    | _ => true
theorem c1_at {ls : List (Option Value)} {i j : Nat} {v : Value} (h : c1_ ls i = true) (hj : j + 1 = i) (hv : ls[j]? = some (some v)) : v.category = 1 := by
  subst hj
  simpa [c1_, hv] using h
theorem ls_store {G : GX} {n i : Nat} {lsB : Array Slot} {ls : List (Option Value)} {x : Option Value} {y : Value} (h : lv_has lsB n ((i, y) :: (pr_ G 0 ls).filter (fun q => !(q.1 == i) && !(q.1 + 1 == i && q.2.category == 2))))
    (hc : c1_ ls i = true) (hx : ∀ v, x = some v → y = cv_ G v) : ls_ G n lsB (ls.set i x) := by
  refine ⟨h.1, h.2.1, fun q hq => ?_⟩
  obtain ⟨j, v, h1, h2⟩ := pr_mem.mp hq
  rw [List.getElem?_set] at h1
  by_cases hj : i = j
  · rw [if_pos hj] at h1
    split at h1
    · have := hx v (Option.some.inj h1)
      refine h.2.2 q (List.mem_cons.mpr (Or.inl ?_))
      rw [h2, this, ← hj]
      simp
    · cases h1
  · rw [if_neg hj] at h1
    refine h.2.2 q (List.mem_cons_of_mem _ (List.mem_filter.mpr ⟨pr_mem.mpr ⟨j, v, h1, h2⟩, ?_⟩))
    rw [h2]
    simp only [Nat.zero_add, Bool.and_eq_true, Bool.not_eq_true', beq_eq_false_iff_ne, ne_eq, Bool.and_eq_false_iff]
    refine ⟨fun q => hj q.symm, ?_⟩
    by_cases hji : j + 1 = i
    · right
      rw [cv_cat, c1_at hc hji h1]
      decide
    · left
      exact hji
