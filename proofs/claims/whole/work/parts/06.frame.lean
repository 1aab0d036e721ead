/-! the tables' good words: one list for every method -/
def gd_ : List Cond := lw_tbl.filter goodWord
theorem gd_tbl {w : Cond} (h : w ∈ gd_) : w ∈ lw_tbl := (List.mem_filter.mp h).1
theorem gd_good {w : Cond} (h : w ∈ gd_) : goodWord w = true := (List.mem_filter.mp h).2
theorem gd_t {w : Cond} (i : Nat) (h : tables_1[i]? = some w) (hg : goodWord w = true) : w ∈ gd_ := List.mem_filter.mpr ⟨List.mem_append_right _ (List.mem_of_getElem? h), hg⟩
theorem gd_p {w : Cond} (i : Nat) (h : (k2_sels lw_privs)[i]? = some w) (hg : goodWord w = true) : w ∈ gd_ := List.mem_filter.mpr ⟨List.mem_append_left _ (List.mem_of_getElem? h), hg⟩
def cw_ (M : MT) : Cond := if M.2.2.2.2 = [] then .code M.1 M.2.1 M.2.2.1 M.2.2.2.1 else .codeWith M.1 M.2.1 M.2.2.1 M.2.2.2.1 M.2.2.2.2
def ws_ (M : MT) : List Cond := cw_ M :: gd_
theorem ws_in {X : MT} {M : MT} (h : cw_ M ∈ gd_) : GoodIn (ws_ X) (ws_ M) := fun w hw => by
  rcases List.mem_cons.mp hw with rfl | hw
  · exact ⟨List.mem_cons_of_mem _ h, good_of_word (gd_good h)⟩
  · exact ⟨List.mem_cons_of_mem _ hw, good_of_word (gd_good hw)⟩
theorem gd_in {M : MT} (h : cw_ M ∈ gd_) : GoodIn gd_ (ws_ M) := fun w hw => by
  rcases List.mem_cons.mp hw with rfl | hw
  · exact ⟨h, good_of_word (gd_good h)⟩
  · exact ⟨hw, good_of_word (gd_good hw)⟩
/-! the world: 127 cells, laid once; what changes is numbers -/
abbrev WS : Type := (Nat → Nat → Int32) × Int64 × UInt64
def cs_ (w : WS) (k : Nat) (f : Nat → Int32) : WS := (fun k' => if k' = k then f else w.1 k', w.2)
theorem cs_same (w : WS) (k : Nat) (f : Nat → Int32) : (cs_ w k f).1 k = f := by simp [cs_]
theorem cs_ne (w : WS) {k k' : Nat} (f : Nat → Int32) (h : k' ≠ k) : (cs_ w k f).1 k' = w.1 k' := by simp [cs_, h]
def chartLens : List Nat := [64, 4, 4, 4, 52, 4, 4, 5, 5, 5]
/-- what a cell is: an object (its class, its fields: none is a number, some r the cell r) or an array (its type, its length) -/
def shp (k : Nat) : (Nat × List (Option Nat)) ⊕ (Nat × Nat) :=
  if k = 0 then .inl (9, [some 1, some 12, some 23, none, some 100, some 102, some 106, some 104, some 107, some 109, some 112, none])
  else if k < 100 then (if (k - 1) % 11 = 0 then .inl (2, [some (k + 1), some (k + 2), some (k + 3), some (k + 4), some (k + 5), some (k + 6), some (k + 7), some (k + 8), some (k + 9), some (k + 10), none, none, none, none, none, none, none]) else .inr (0, chartLens.getD ((k - 1) % 11 - 1) 0))
  else match k with
  | 100 => .inl (4, [some 101, none, none])
  | 101 => .inr (5, 6)
  | 102 => .inl (3, [none, none, none, none, some 103])
  | 103 => .inr (0, 12)
  | 104 => .inl (8, [some 105, none])
  | 105 => .inr (1, 60)
  | 106 => .inl (6, [some 104, none])
  | 107 => .inl (8, [some 108, none])
  | 108 => .inr (1, 60)
  | 109 => .inl (7, [some 110, some 111, none])
  | 110 => .inr (0, 3)
  | 111 => .inr (0, 3)
  | 112 => .inl (5, [some 113, some 114])
  | 113 => .inr (0, 64)
  | 114 => .inr (0, 64)
  | 115 => .inl (10, [some 116, some 117, some 118, none, some 119, none, none, some 120, none, some 121, some 122, none, some 123, none, none, none, none, some 124, none])
  | 116 => .inr (0, 158)
  | 117 => .inr (0, 158)
  | 118 => .inr (0, 158)
  | 119 => .inr (0, 948)
  | 120 => .inr (0, 6)
  | 121 => .inr (2, 64)
  | 122 => .inr (1, 40)
  | 123 => .inr (1, 60)
  | 124 => .inr (0, 300)
  | 125 => .inr (3, 1)
  | _ => .inr (4, 1)

abbrev GX : Type := Launch × va_G × (Nat → Nat) × (Nat → ClassId) × Nat × Nat × (Nat → Int32)
abbrev gL (G : GX) : Launch := G.1
abbrev gD (G : GX) : va_G := G.2.1
abbrev gA (G : GX) : Nat → Nat := G.2.2.1
abbrev gC (G : GX) : Nat → ClassId := G.2.2.2.1
abbrev gZ (G : GX) : Nat := G.2.2.2.2.1
abbrev gN (G : GX) : Nat := G.2.2.2.2.2.1
abbrev gX (G : GX) : Nat → Int32 := G.2.2.2.2.2.2
def fr_ (G : GX) : Nat → Prop := fun q => gZ G ≤ q
def cv_ (G : GX) : Value → Value
  | .ref k => .ref (gA G k)
  | v => v
theorem cv_cat (G : GX) (v : Value) : (cv_ G v).category = v.category := by cases v <;> rfl
theorem cv_sum (G : GX) (l : List Value) : ((l.map (cv_ G)).map fun v => v.category) = l.map fun v => v.category := by
  rw [List.map_map]
  exact List.map_congr_left fun v _ => cv_cat G v
def tys_ (G : GX) : List (ClassId × FieldType) := [(gC G 0, .int), (gC G 1, .char), (gC G 2, .boolean), (gC G 3, .long), (gC G 4, .double), (gC G 5, .object "MapScales$Chart")]
def fv_ (G : GX) (w : WS) (k j : Nat) : Option Nat → Value
  | none => .int (w.1 k j)
  | some r => .ref (gA G r)
def ar_ (G : GX) (w : WS) (k : Nat) : Nat → (Nat → Int32) ⊕ (Nat → Int64) ⊕ (Nat → UInt32) ⊕ (Nat → UInt64) ⊕ (Nat → Option Nat)
  | 0 => .inl (w.1 k)
  | 1 => .inl (w.1 k)
  | 2 => .inl (w.1 k)
  | 3 => .inr (.inl (fun _ => w.2.1))
  | 4 => .inr (.inr (.inr (.inl (fun _ => w.2.2))))
  | _ => .inr (.inr (.inr (.inr (fun j => some (gA G (34 + 11 * j))))))
def ce_ (G : GX) (w : WS) (k : Nat) : va_E := match shp k with
  | .inl o => .inr (o.1, o.2.mapIdx (fun j f => fv_ G w k j f))
  | .inr a => .inl (gC G a.1, a.2, ar_ G w k a.1)
def wl_ (G : GX) (w : WS) : va_W := (List.range 127).map (fun k => (gA G k, ce_ G w k))
theorem wl_get (G : GX) (w : WS) {k : Nat} (h : k < 127) : (wl_ G w)[k]? = some (gA G k, ce_ G w k) := by
  simp [wl_, h]
theorem wl_inv {G : GX} {w : WS} {k : Nat} {q : Nat × va_E} (h : (wl_ G w)[k]? = some q) : k < 127 ∧ q = (gA G k, ce_ G w k) := by
  have hk : k < 127 := by
    have := (List.getElem?_eq_some_iff.mp h).1
    simpa [wl_] using this
  rw [wl_get G w hk] at h
  exact ⟨hk, (Option.some.inj h).symm⟩
/-- the strings that the reference tells by their places -/
def sB : List (List Int32) := [[110, 101, 115, 119], [112, 115, 109, 114, 107, 100, 102]]
def sN : List Nat := [4, 7]
def ncs_ : List (String × String) := [("java/lang/IndexOutOfBoundsException", "java/lang/IllegalArgumentException"), ("java/lang/IndexOutOfBoundsException", "java/lang/IllegalStateException"), ("java/lang/IndexOutOfBoundsException", "java/lang/UnsupportedOperationException"), ("java/lang/IndexOutOfBoundsException", "java/util/NoSuchElementException"), ("java/lang/IndexOutOfBoundsException", "java/lang/ArithmeticException"), ("java/lang/IllegalArgumentException", "java/lang/IndexOutOfBoundsException"), ("java/lang/IllegalArgumentException", "java/lang/IllegalStateException"), ("java/lang/IllegalArgumentException", "java/lang/UnsupportedOperationException"), ("java/lang/IllegalArgumentException", "java/util/NoSuchElementException"), ("java/lang/IllegalArgumentException", "java/lang/ArithmeticException"), ("java/lang/IllegalStateException", "java/lang/IndexOutOfBoundsException"), ("java/lang/IllegalStateException", "java/lang/IllegalArgumentException"), ("java/lang/IllegalStateException", "java/lang/UnsupportedOperationException"), ("java/lang/IllegalStateException", "java/util/NoSuchElementException"), ("java/lang/IllegalStateException", "java/lang/ArithmeticException"), ("java/lang/UnsupportedOperationException", "java/lang/IndexOutOfBoundsException"), ("java/lang/UnsupportedOperationException", "java/lang/IllegalArgumentException"), ("java/lang/UnsupportedOperationException", "java/lang/IllegalStateException"), ("java/lang/UnsupportedOperationException", "java/util/NoSuchElementException"), ("java/lang/UnsupportedOperationException", "java/lang/ArithmeticException"), ("java/util/NoSuchElementException", "java/lang/IndexOutOfBoundsException"), ("java/util/NoSuchElementException", "java/lang/IllegalArgumentException"), ("java/util/NoSuchElementException", "java/lang/IllegalStateException"), ("java/util/NoSuchElementException", "java/lang/UnsupportedOperationException"), ("java/util/NoSuchElementException", "java/lang/ArithmeticException"), ("java/lang/ArithmeticException", "java/lang/IndexOutOfBoundsException"), ("java/lang/ArithmeticException", "java/lang/IllegalArgumentException"), ("java/lang/ArithmeticException", "java/lang/IllegalStateException"), ("java/lang/ArithmeticException", "java/lang/UnsupportedOperationException"), ("java/lang/ArithmeticException", "java/util/NoSuchElementException")]
/-- words that the tables tell, carried on by laws of their own -/
def nw_ : Cond → Bool
  | .castable .. => true
  | .declares .. => true
  | _ => false
theorem nw_warm {w : Cond} (h : nw_ w = true) {s U : State} (hW : s.WarmedH U.vm) (hZ : va_Nw w s) : va_Nw w U := by
  unfold nw_ at h
  split at h
  · exact hZ.warmC hW
  · exact hZ.warmD hW
  · cases h
theorem nw_tab {w : Cond} (h : nw_ w = true) : w.onTables = true := by
  unfold nw_ at h
  split at h
  · rfl
  · rfl
  · cases h
/-- what holds of the start, at a state: nothing of it is ever written -/
def bs_ (G : GX) (U : State) (H : Heap) : Prop :=
  va_K (gD G) vwCl (tys_ G) U ∧ va_X (gA G 1000) (gN G) (gX G) U H ∧ vx_Zq Bundle.tN "UNASSIGNED_STACK" Bundle.steD (fr_ G) U H ∧ vx_Zq Bundle.tN "SUPPRESSED_SENTINEL" Bundle.listD (fr_ G) U H ∧
  vk_S 2 sN sB (fun i => gA G (2000 + i)) (fun i => gA G (3000 + i)) (fr_ G) U H ∧ (va_Z "java/lang/String" "COMPACT_STRINGS" "Z" (.int 1) (fr_ G) U H ∧ ∃ x : Value, (x = .null ∨ x = .ref 4000) ∧ va_Z "jdk/internal/util/Preconditions" "SIOOBE_FORMATTER" "Ljava/util/function/BiFunction;" (cv_ G x) (fr_ G) U H) ∧
  (∀ own k tx, Cond.stringRef own k tx ∈ tables_1 → ∃ a, vk_R own k tx a U) ∧
  (vk_R "MapScalesModel" 125 "nesw" (gA G 2000) U ∧ vk_R "MapScalesModel" 252 "psmrkdf" (gA G 2001) U) ∧
  (∀ q ∈ ncs_, va_Nc q.1 q.2 U) ∧ (∀ own k y h, Cond.methodLinkNest own k y h ∈ tables_1 → va_Nw (.methodLinkNest own k y h) U) ∧ (∀ w, w ∈ tables_1 → nw_ w = true → va_Nw w U)
def ok_G (G : GX) : Prop := (gL G).stackTraces = false ∧ (∀ i j, i < 127 → j < 127 → gA G i = gA G j → i = j) ∧ (∀ i, i < 127 → gZ G ≤ gA G i) ∧ gA G 1000 < gZ G
/-! EV -/
theorem chl_lt (j : Nat) : chartLens.getD j 0 < 1000 := by
  rcases Nat.lt_or_ge j 10 with h | h
  · exact (by decide : ∀ j, j < 10 → chartLens.getD j 0 < 1000) j h
  · rw [List.getD_eq_getElem?_getD, List.getElem?_eq_none (by simpa [chartLens] using h)]
    decide
theorem shp_lt {k t n : Nat} (h : shp k = .inr (t, n)) : n < 1000 := by
  unfold shp at h
  split at h
  · cases h
  · split at h
    · split at h
      · cases h
      · cases h
        exact chl_lt _
    · split at h <;> first | (cases h; done) | (cases h; decide)
theorem ce_arr {G : GX} {w : WS} {k t n : Nat} (h : shp k = .inr (t, n)) : ce_ G w k = .inl (gC G t, n, ar_ G w k t) := by
  simp [ce_, h]
theorem ce_obj {G : GX} {w : WS} {k ci : Nat} {fs : List (Option Nat)} (h : shp k = .inl (ci, fs)) : ce_ G w k = .inr (ci, fs.mapIdx (fun j f => fv_ G w k j f)) := by
  simp [ce_, h]
theorem ce_congr {G : GX} {w w' : WS} {k : Nat} (h : w'.1 k = w.1 k) (h2 : w'.2 = w.2) : ce_ G w' k = ce_ G w k := by
  unfold ce_
  split
  · congr 2
    apply List.mapIdx_eq_mapIdx_iff.mpr
    intro i hi
    unfold fv_
    split <;> simp [h]
  · congr 3
    unfold ar_
    split <;> simp [h, h2]
theorem wl_set {G : GX} {w w' : WS} {k : Nat} {e : va_E} (he : ce_ G w' k = e) (ho : ∀ j, j < 127 → j ≠ k → ce_ G w' j = ce_ G w j) : (wl_ G w).set k (gA G k, e) = wl_ G w' := by
  apply List.ext_getElem?
  intro j
  rw [List.getElem?_set]
  rcases Nat.lt_or_ge j 127 with h | h
  · rw [wl_get G w' h, wl_get G w h]
    by_cases hj : k = j
    · subst hj
      rw [if_pos rfl, if_pos (by simpa [wl_] using h), he]
    · rw [if_neg hj, ho j h (fun q => hj q.symm)]
  · have h1 : (wl_ G w')[j]? = none := List.getElem?_eq_none (by simpa [wl_] using h)
    have h2 : (wl_ G w)[j]? = none := List.getElem?_eq_none (by simpa [wl_] using h)
    rw [h1, h2]
    split
    · rw [if_neg (by simpa [wl_] using (by omega : ¬ k < 127))]
    · rfl
/-! locals -/
def pr_ (G : GX) : Nat → List (Option Value) → List (Nat × Value)
  | _, [] => []
  | k, none :: r => pr_ G (k + 1) r
  | k, some v :: r => (k, cv_ G v) :: pr_ G (k + 1) r
theorem pr_mem {G : GX} {l : List (Option Value)} {k : Nat} {q : Nat × Value} : q ∈ pr_ G k l ↔ ∃ i v, l[i]? = some (some v) ∧ q = (k + i, cv_ G v) := by
  induction l generalizing k with
  | nil => simp [pr_]
  | cons a r ih =>
    have hstep : (∃ i v, (a :: r)[i]? = some (some v) ∧ q = (k + i, cv_ G v)) ↔ ((∃ v, a = some v ∧ q = (k, cv_ G v)) ∨ ∃ i v, r[i]? = some (some v) ∧ q = (k + 1 + i, cv_ G v)) := by
      constructor
      · rintro ⟨i, v, h1, h2⟩
        cases i with
        | zero => exact Or.inl ⟨v, by simpa using h1, by simpa using h2⟩
        | succ i => exact Or.inr ⟨i, v, by simpa using h1, by rw [h2]; congr 1; omega⟩
      · rintro (⟨v, h1, h2⟩ | ⟨i, v, h1, h2⟩)
        · exact ⟨0, v, by simp [h1], by simpa using h2⟩
        · exact ⟨i + 1, v, by simpa using h1, by rw [h2]; congr 1; omega⟩
    rw [hstep, ← ih]
    cases a with
    | none => simp [pr_]
    | some v => simp [pr_]
def ls_ (G : GX) (n : Nat) (lsA : Array Slot) (ls : List (Option Value)) : Prop := lv_has lsA n (pr_ G 0 ls)
theorem ls_at {G : GX} {n : Nat} {lsA : Array Slot} {ls : List (Option Value)} {i : Nat} {v : Value} (h : ls_ G n lsA ls) (hi : ls[i]? = some (some v)) : lsA[i]? = some (.val (cv_ G v)) :=
  h.2.2 (i, cv_ G v) (pr_mem.mpr ⟨i, v, hi, by simp⟩)
theorem ls_sub {G : GX} {n : Nat} {lsA : Array Slot} {ls ls' : List (Option Value)} (h : ls_ G n lsA ls) (hs : ∀ (i : Nat) (v : Value), ls'[i]? = some (some v) → ls[i]? = some (some v)) : ls_ G n lsA ls' :=
  ⟨h.1, h.2.1, fun q hq => by
    obtain ⟨i, v, h1, h2⟩ := pr_mem.mp hq
    exact h.2.2 q (pr_mem.mpr ⟨i, v, hs i v h1, h2⟩)⟩
/-- no value of two slots stands just ahead of place i -/
def c1_ (ls : List (Option Value)) (i : Nat) : Bool := match i with
  | 0 => true
  | j + 1 => match ls[j]? with
    | some (some v) => v.category == 1
    | _ => true
theorem c1_at {ls : List (Option Value)} {i j : Nat} {v : Value} (h : c1_ ls i = true) (hj : j + 1 = i) (hv : ls[j]? = some (some v)) : v.category = 1 := by
  subst hj
  simpa [c1_, hv] using h
theorem ls_store {G : GX} {n i : Nat} {lsB : Array Slot} {ls : List (Option Value)} {x : Option Value} {y : Value} (h : lv_has lsB n ((i, y) :: (pr_ G 0 ls).filter (fun q => !(q.1 == i) && !(q.1 + 1 == i && q.2.category == 2))))
    (hc : c1_ ls i = true) (hx : ∀ v, x = some v → y = cv_ G v) : ls_ G n lsB (ls.set i x) := by
  refine ⟨h.1, h.2.1, fun q hq => ?_⟩
  obtain ⟨j, v, h1, h2⟩ := pr_mem.mp hq
  rw [List.getElem?_set] at h1
  by_cases hj : i = j
  · rw [if_pos hj] at h1
    split at h1
    · have := hx v (Option.some.inj h1)
      refine h.2.2 q (List.mem_cons.mpr (Or.inl ?_))
      rw [h2, this, ← hj]
      simp
    · cases h1
  · rw [if_neg hj] at h1
    refine h.2.2 q (List.mem_cons_of_mem _ (List.mem_filter.mpr ⟨pr_mem.mpr ⟨j, v, h1, h2⟩, ?_⟩))
    rw [h2]
    simp only [Nat.zero_add, Bool.and_eq_true, Bool.not_eq_true', beq_eq_false_iff_ne, ne_eq, Bool.and_eq_false_iff]
    refine ⟨fun q => hj q.symm, ?_⟩
    by_cases hji : j + 1 = i
    · right
      rw [cv_cat, c1_at hc hji h1]
      decide
    · left
      exact hji
