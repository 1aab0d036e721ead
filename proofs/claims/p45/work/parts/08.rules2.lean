theorem wk_ldcwF {p : Program} {l : Launch} {e : Env} {R : Room} {s T : State} {m : MethodId} {args : Array Value} {below : List Frame} {meth : Method} {c : Code} {locs : List Loc} {cells slots : Nat} (X : Stand p l e R s m args below meth c T locs cells slots) (hexec : p.tables.exec = Jvm.exec) {own : String} {index : Nat} {v : UInt32} (hown : s.vm.findClass own = some m.cls)
    (hconst : (Cond.constantFloat own index v).before args s = true) {g : JFrame} (hg : g.method = m) (hdg : decode c.code g.pc = .ok (.ldc_w index, 3)) :
    ∀ target, Steps p.tables e below (T.setTop { g with pc := g.pc + 3, stack := .float v :: g.stack }) target → Steps p.tables e below (T.setTop g) target := by
  obtain ⟨k, cf, hk, hcf, hcp⟩ := Cond.constantFloat_spec hown hconst
  obtain ⟨k', hk', he⟩ := X.warmed.alike.2.2 _ _ hk
  intro target hrest
  subst hg
  jvm_step X.here [hexec, hdg, ldc_w.wp_float (s := T) (f := g) X.here.top hk' (by rw [he]; exact hcf) hcp]
  exact hrest
theorem ev_ldcfw {G : GX} {d b : Nat} {M : MT} {pc : Nat} {ls : List (Option Value)} {st : List Value} {w : WS} {Z : ZT} {i : Nat} {v : UInt32} (hd : decode M.2.1 pc = .ok (.ldc_w i, 3)) (hw : Cond.constantFloat M.1.cls i v ∈ gd_)
    (K : Ev G d b M (pc + 3) ls (.float v :: st) w Z) : Ev G d b M pc ls st w Z := by
  intro p e R s m args below meth c H locs cells slots lsA C r hP hD hS hL
  intro T hT X
  obtain ⟨t, a, q⟩ := K p e R s m args below meth c H locs cells slots lsA C r hP hD hS hL T hT X
  exact ⟨t, wk_ldcwF X C.2.1 C.2.2.2.2.2.1 (C.2.2.2.2.2.2.1 _ hw) (g := F0 m pc lsA (st.map (cv_ G))) rfl (by rw [C.2.2.1]; exact hd) t a, q⟩
theorem bs_K {G : GX} {U : State} {H : Heap} (h : bs_ G U H) : va_K (gD G) vwCl (tys_ G) U := h.1
theorem bs_S {G : GX} {U : State} {H : Heap} (h : bs_ G U H) : vS_ 17 sN sB (fun i => gA G (2000 + i)) (fun i => gA G (3000 + i)) (fr_ G) U H := h.2.2.2.2.1
/-- a field of a class by a pool number: class ci of vwCl, its field j; whether final; its type -/
def fl_ (own : String) (idx ci j : Nat) (fin : Bool) (ty : FieldType) : Prop := ∃ (C : String) (T : u_T) (N : Nat) (ty0 : Nat → FieldType), vwCl[ci]? = some (C, T, N) ∧ j < N ∧ (∀ w ∈ u_ws C T N, w ∈ gd_) ∧ Cond.fieldLink own idx (T j).1 (T j).2.1 (T j).2.2.1 ∈ gd_ ∧ (∀ k, k < N → parseFieldDescriptor (T k).2.2.1 = some (ty0 k)) ∧
  (∀ a, a < N → ∀ b, b < N → a ≠ b → (T a).2.1 ≠ (T b).2.1) ∧ (T j).2.2.2 = fin ∧ parseFieldDescriptor (T j).2.2.1 = some ty
theorem mi_get {α β : Type} {l : List α} {f : Nat → α → β} {j : Nat} {x : α} (h : l[j]? = some x) : (l.mapIdx f)[j]? = some (f j x) := by
  rw [List.getElem?_mapIdx, h]
  rfl
theorem mi_set {G : GX} {w w' : WS} {k j : Nat} {v : Value} {fs : List (Option Nat)} (hj : fs[j]? = some none) (hv : v = .int (w'.1 k j)) (ho : ∀ i, i ≠ j → w'.1 k i = w.1 k i) : (fs.mapIdx (fun i f => fv_ G w k i f)).set j v = fs.mapIdx (fun i f => fv_ G w' k i f) := by
  apply List.ext_getElem?
  intro i
  rw [List.getElem?_set, List.getElem?_mapIdx, List.getElem?_mapIdx, List.length_mapIdx]
  by_cases hi : j = i
  · subst hi
    rw [if_pos rfl, if_pos (List.getElem?_eq_some_iff.mp hj).1, hj]
    simp [fv_, hv]
  · rw [if_neg hi]
    cases hx : fs[i]? with
    | none => rfl
    | some f =>
      simp only [Option.map_some]
      unfold fv_
      split
      · rw [ho i (fun q => hi q.symm)]
      · rfl
/-- a world whose cells other than k are those of w -/
theorem wl_up {G : GX} {w : WS} {k : Nat} {f : Nat → Int32} {e : va_E} (hk : k < 115) (he : ce_ G (cs_ w k f) k = e) : (wl_ G w).set k (gA G k, e) = wl_ G (cs_ w k f) :=
  wl_set hk he (fun j _ hj => ce_congr (cs_ne w f hj)) rfl
theorem ev_getI {G : GX} {d b : Nat} {M : MT} {pc : Nat} {ls : List (Option Value)} {st : List Value} {w : WS} {Z : ZT} {i k ci j : Nat} {fs : List (Option Nat)} {fin : Bool} {ty : FieldType} (hf : fl_ M.1.cls i ci j fin ty) (hd : decode M.2.1 pc = .ok (.getfield i, 3)) (hk : k < 115) (hs : shp k = .inl (ci, fs)) (hj : fs[j]? = some none)
    (K : Ev G d b M (pc + 3) ls (.int (w.1 k j) :: st) w Z) : Ev G d b M pc ls (.ref k :: st) w Z := by
  intro p e R s m args below meth c H locs cells slots lsA C r hP hD hS hL
  obtain ⟨C1, T1, N, ty0, h1, h2, h3, h4, -, -, -, -⟩ := hf
  exact va_get C.2.1 C.2.2.1 C.2.2.2.2.2.2.1 h3 C.2.2.2.2.2.1 (bs_K C.2.2.2.2.2.2.2.2.2) hP k (by rw [wl_get G w hk, ce_obj hs]) h1 j h2 (C.2.2.2.2.2.2.1 _ h4) (fun _ h => h) (by rw [mi_get hj]; rfl) hd (K p e R s m args below meth c H locs cells slots lsA C r hP hD hS hL)
theorem ev_getR {G : GX} {d b : Nat} {M : MT} {pc : Nat} {ls : List (Option Value)} {st : List Value} {w : WS} {Z : ZT} {i k ci j a : Nat} {fs : List (Option Nat)} {fin : Bool} {ty : FieldType} (hf : fl_ M.1.cls i ci j fin ty) (hd : decode M.2.1 pc = .ok (.getfield i, 3)) (hk : k < 115) (hs : shp k = .inl (ci, fs)) (hj : fs[j]? = some (some a))
    (K : Ev G d b M (pc + 3) ls (.ref a :: st) w Z) : Ev G d b M pc ls (.ref k :: st) w Z := by
  intro p e R s m args below meth c H locs cells slots lsA C r hP hD hS hL
  obtain ⟨C1, T1, N, ty0, h1, h2, h3, h4, -, -, -, -⟩ := hf
  exact va_get C.2.1 C.2.2.1 C.2.2.2.2.2.2.1 h3 C.2.2.2.2.2.1 (bs_K C.2.2.2.2.2.2.2.2.2) hP k (by rw [wl_get G w hk, ce_obj hs]) h1 j h2 (C.2.2.2.2.2.2.1 _ h4) (fun _ h => h) (by rw [mi_get hj]; rfl) hd (K p e R s m args below meth c H locs cells slots lsA C r hP hD hS hL)
theorem ev_put {G : GX} {d b : Nat} {M : MT} {pc : Nat} {ls : List (Option Value)} {st : List Value} {w : WS} {Z : ZT} {i k ci j : Nat} {x : Int32} {fs : List (Option Nat)} {ty : FieldType} (hf : fl_ M.1.cls i ci j false ty) (hd : decode M.2.1 pc = .ok (.putfield i, 3)) (hn : narrow ty (.int x) = .int x) (hfit : fits ty (.int x) = true) (hk : k < 115) (hs : shp k = .inl (ci, fs)) (hj : fs[j]? = some none)
    (K : Ev G d b M (pc + 3) ls st (cs_ w k (upd (w.1 k) j x)) Z) : Ev G d b M pc ls (.int x :: .ref k :: st) w Z := by
  intro p e R s m args below meth c H locs cells slots lsA C r hP hD hS hL
  obtain ⟨C1, T1, N, ty0, h1, h2, h3, h4, h5, h6, h7, h8⟩ := hf
  refine va_put C.2.1 C.2.2.1 C.2.2.2.2.2.2.1 h3 ty0 h5 h6 C.2.2.2.2.2.1 (bs_K C.2.2.2.2.2.2.2.2.2) hP hD hS k (by rw [wl_get G w hk, ce_obj hs]) h1 j h2 (C.2.2.2.2.2.2.1 _ h4) (fun _ h => h) h7 h8 hn hfit (by rw [List.length_mapIdx]; exact (List.getElem?_eq_some_iff.mp hj).1) hd (fun H1 locs1 hP1 _ hS1 => K p e R s m args below meth c H1 locs1 cells slots lsA C r ?_ (wd_c hD rfl) hS1 hL)
  rw [wl_up (f := upd (w.1 k) j x) hk (by rw [ce_obj hs, mi_set hj (w := w) (w' := cs_ w k (upd (w.1 k) j x)) (by simp [cs_, upd, cv_]) (fun i hi => by simp [cs_, upd, hi])])] at hP1
  exact hP1
theorem ev_iaload {G : GX} {d b : Nat} {M : MT} {pc : Nat} {ls : List (Option Value)} {st : List Value} {w : WS} {Z : ZT} {k n j : Nat} {x : Int32} (hd : decode M.2.1 pc = .ok (.iaload, 1)) (hx : x = nI j) (hj : j < n) (hk : k < 115) (hs : shp k = .inr (0, n))
    (K : Ev G d b M (pc + 1) ls (.int (w.1 k j) :: st) w Z) : Ev G d b M pc ls (.int x :: .ref k :: st) w Z := by
  intro p e R s m args below meth c H locs cells slots lsA C r hP hD hS hL
  subst hx
  have hn := shp_lt hs
  refine va_iald C.2.1 C.2.2.1 (bs_K C.2.2.2.2.2.2.2.2.2) hP k 0 (f := w.1 k) (by rw [wl_get G w hk, ce_arr hs]; rfl) rfl (vp_in_nI hj (by omega)) hd ?_
  rw [nI_clamp (by omega)]
  exact (K p e R s m args below meth c H locs cells slots lsA C r hP hD hS hL)
theorem ev_caload {G : GX} {d b : Nat} {M : MT} {pc : Nat} {ls : List (Option Value)} {st : List Value} {w : WS} {Z : ZT} {k n j : Nat} {x : Int32} (hd : decode M.2.1 pc = .ok (.caload, 1)) (hx : x = nI j) (hj : j < n) (hk : k < 115) (hs : shp k = .inr (1, n))
    (K : Ev G d b M (pc + 1) ls (.int (w.1 k j) :: st) w Z) : Ev G d b M pc ls (.int x :: .ref k :: st) w Z := by
  intro p e R s m args below meth c H locs cells slots lsA C r hP hD hS hL
  subst hx
  have hn := shp_lt hs
  refine va_cald C.2.1 C.2.2.1 (bs_K C.2.2.2.2.2.2.2.2.2) hP k 1 (f := w.1 k) (by rw [wl_get G w hk, ce_arr hs]; rfl) rfl (vp_in_nI hj (by omega)) hd ?_
  rw [nI_clamp (by omega)]
  exact (K p e R s m args below meth c H locs cells slots lsA C r hP hD hS hL)
theorem ev_iastore {G : GX} {d b : Nat} {M : MT} {pc : Nat} {ls : List (Option Value)} {st : List Value} {w : WS} {Z : ZT} {k n j : Nat} {x y z : Int32} (hd : decode M.2.1 pc = .ok (.iastore, 1)) (hx : x = nI j) (hj : j < n) (hz : y = z) (hk : k < 115) (hs : shp k = .inr (0, n))
    (K : Ev G d b M (pc + 1) ls st (cs_ w k (upd (w.1 k) j z)) Z) : Ev G d b M pc ls (.int y :: .int x :: .ref k :: st) w Z := by
  intro p e R s m args below meth c H locs cells slots lsA C r hP hD hS hL
  subst hx
  have hn := shp_lt hs
  refine va_iast C.2.1 C.2.2.1 (bs_K C.2.2.2.2.2.2.2.2.2) hP hD hS k 0 (f := w.1 k) (by rw [wl_get G w hk, ce_arr hs]; rfl) rfl (vp_in_nI hj (by omega)) hd (fun H1 locs1 hP1 _ hS1 => K p e R s m args below meth c H1 locs1 cells slots lsA C r ?_ (wd_c hD rfl) hS1 hL)
  rw [nI_clamp (by omega), hz] at hP1
  rw [wl_up (f := upd (w.1 k) j z) hk (by rw [ce_arr hs]; simp [ar_, cs_])] at hP1
  exact hP1
theorem ev_castore {G : GX} {d b : Nat} {M : MT} {pc : Nat} {ls : List (Option Value)} {st : List Value} {w : WS} {Z : ZT} {k n j : Nat} {x y z : Int32} (hd : decode M.2.1 pc = .ok (.castore, 1)) (hx : x = nI j) (hj : j < n) (hz : vp_nar .char y = z) (hk : k < 115) (hs : shp k = .inr (1, n))
    (K : Ev G d b M (pc + 1) ls st (cs_ w k (upd (w.1 k) j z)) Z) : Ev G d b M pc ls (.int y :: .int x :: .ref k :: st) w Z := by
  intro p e R s m args below meth c H locs cells slots lsA C r hP hD hS hL
  subst hx
  have hn := shp_lt hs
  refine va_cast C.2.1 C.2.2.1 (bs_K C.2.2.2.2.2.2.2.2.2) hP hD hS k 1 (f := w.1 k) (by rw [wl_get G w hk, ce_arr hs]; rfl) rfl (vp_in_nI hj (by omega)) hd (fun H1 locs1 hP1 _ hS1 => K p e R s m args below meth c H1 locs1 cells slots lsA C r ?_ (wd_c hD rfl) hS1 hL)
  rw [nI_clamp (by omega), hz] at hP1
  rw [wl_up (f := upd (w.1 k) j z) hk (by rw [ce_arr hs]; simp [ar_, cs_])] at hP1
  exact hP1
theorem ev_aaload {G : GX} {d b : Nat} {M : MT} {pc : Nat} {ls : List (Option Value)} {st : List Value} {w : WS} {Z : ZT} {j : Nat} {x : Int32} (hd : decode M.2.1 pc = .ok (.aaload, 1)) (hx : x = nI j) (hj : j < 6)
    (K : Ev G d b M (pc + 1) ls (.ref (34 + 11 * j) :: st) w Z) : Ev G d b M pc ls (.int x :: .ref 101 :: st) w Z := by
  intro p e R s m args below meth c H locs cells slots lsA C r hP hD hS hL
  subst hx
  refine va_aldq C.2.1 C.2.2.1 (bs_K C.2.2.2.2.2.2.2.2.2) hP 101 5 (f := fun j => some (gA G (34 + 11 * j))) (by rw [wl_get G w (by decide), ce_arr (t := 5) (n := 6) rfl]; rfl) rfl (vp_in_nI hj (by omega)) hd ?_
  rw [nI_clamp (by omega)]
  exact (K p e R s m args below meth c H locs cells slots lsA C r hP hD hS hL)
theorem bs_X {G : GX} {U : State} {H : Heap} (h : bs_ G U H) : va_X (gA G 1000) (gN G) (gX G) U H := h.2.1.1
theorem bs_Xl {G : GX} {U : State} {H : Heap} (h : bs_ G U H) : gA G 1000 < H.size := by
  obtain ⟨scr, h1, -⟩ := bs_X h
  exact (Array.getElem?_eq_some_iff.mp h1).1
theorem ev_sload {G : GX} {d b : Nat} {M : MT} {pc : Nat} {ls : List (Option Value)} {st : List Value} {w : WS} {Z : ZT} {x : Int32} {j : Nat} (hd : decode M.2.1 pc = .ok (.iaload, 1)) (hx : x = nI j) (hj : j < gN G) (hN : gN G ≤ 1536)
    (K : Ev G d b M (pc + 1) ls (.int (gX G j) :: st) w Z) : Ev G d b M pc ls (.int x :: .ref 1000 :: st) w Z := by
  intro p e R s m args below meth c H locs cells slots lsA C r hP hD hS hL
  subst hx
  have hB := C.2.2.2.2.2.2.2.2.2
  refine va_sld C.2.1 C.2.2.1 (bs_X hB) (bs_Xl hB) (fun h => absurd C.1.2.2.2.1 (Nat.not_lt.mpr h)) hS (vp_in_nI hj (by omega)) hd ?_
  rw [nI_clamp (by omega)]
  exact (K p e R s m args below meth c H locs cells slots lsA C r hP hD hS hL)
theorem ev_slen {G : GX} {d b : Nat} {M : MT} {pc : Nat} {ls : List (Option Value)} {st : List Value} {w : WS} {Z : ZT}  (hd : decode M.2.1 pc = .ok (.arraylength, 1))
    (K : Ev G d b M (pc + 1) ls (.int (nI (gN G)) :: st) w Z) : Ev G d b M pc ls (.ref 1000 :: st) w Z := by
  intro p e R s m args below meth c H locs cells slots lsA C r hP hD hS hL
  have hB := C.2.2.2.2.2.2.2.2.2
  exact va_slen C.2.1 C.2.2.1 (bs_X hB) (bs_Xl hB) (fun h => absurd C.1.2.2.2.1 (Nat.not_lt.mpr h)) hS hd (K p e R s m args below meth c H locs cells slots lsA C r hP hD hS hL)
theorem ev_alen {G : GX} {d b : Nat} {M : MT} {pc : Nat} {ls : List (Option Value)} {st : List Value} {w : WS} {Z : ZT} {k t n : Nat} (hd : decode M.2.1 pc = .ok (.arraylength, 1)) (hk : k < 115) (hs : shp k = .inr (t, n)) (ht : t < 3)
    (K : Ev G d b M (pc + 1) ls (.int (nI n) :: st) w Z) : Ev G d b M pc ls (.ref k :: st) w Z := by
  intro p e R s m args below meth c H locs cells slots lsA C r hP hD hS hL
  have ht : ∃ ty, (tys_ G)[t]? = some (gC G t, ty) := by
    match t, ht with
    | 0, _ => exact ⟨_, rfl⟩
    | 1, _ => exact ⟨_, rfl⟩
    | 2, _ => exact ⟨_, rfl⟩
  obtain ⟨ty, ht⟩ := ht
  exact va_alen (x := (n, ar_ G w k t)) C.2.1 C.2.2.1 (bs_K C.2.2.2.2.2.2.2.2.2) hP k t (by rw [wl_get G w hk, ce_arr hs]) ht rfl hd (K p e R s m args below meth c H locs cells slots lsA C r hP hD hS hL)

theorem bs_Z {G : GX} {U : State} {H : Heap} (h : bs_ G U H) : gZ G ≤ H.size := h.2.1.2
