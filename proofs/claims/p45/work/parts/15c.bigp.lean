/-! contracts of methods that make cells: what they answer, and the world behind them, are found on the way -/
def qP_ (G : GX) (P : Option Value → WS → Prop) : Array Value → State → Outcome → State → Prop := fun _ st oc t =>
  (∃ r w', P r w' ∧ oc = .returned (r.map (cv_ G)) ∧ va_P (gD G) vwCl (wl_ G w') t.heap ∧ va_D (fr_ G) (wl_ G w')) ∧ va_F (fr_ G) st t
def zP_ (G : GX) (P : Option Value → WS → Prop) : ZT := fun R below args s => MQ below (qP_ G P) args s R.cells R.slots (fr_ G)
def BigP (G : GX) (d b : Nat) (M : MT) (args : List Value) (w : WS) (P : Option Value → WS → Prop) : Prop :=
  ok_G G → Met (gL G) M.1 (ws_ M) (ro_ d b) (pc_ G args w) (qP_ G P) b (16 * b) (fr_ G)
theorem bp_of {G : GX} {d b : Nat} {M : MT} {args : List Value} {w : WS} {P : Option Value → WS → Prop} (hy : plainName M.1.cls = true) (hh : M.2.2.2.2 = []) (hn : (lg_sl (args.map (cv_ G))).length ≤ M.2.2.1)
    (K : Ev G d b M 0 (en_ M.2.2.1 args) [] w (zP_ G P)) : BigP G d b M args w P := by
  intro hG
  refine Met.ofW (cc := M.2.1) (maxL := M.2.2.1) (ret := M.2.2.2.1) (ws' := gd_) hy (by unfold ws_ cw_; rw [if_pos hh]) ?_
  intro p e s m as below meth c s₁ B hml hv
  obtain ⟨rfl, hP, hB⟩ := hv
  have hts := atoms_spec (ws := ws_ M) B.pre
  have hl := lv_entry (args.map (cv_ G)) (n := M.2.2.1) hn
  have tb : c.exceptionTable.toList = tableOf M.2.2.2.2 := by
    have h0 := atoms_spec (ws := ws_ M) B.pre _ List.mem_cons_self
    unfold cw_ at h0
    rw [if_pos hh] at h0
    obtain ⟨meth9, c9, h1, h2, -, -, -, -, h7, -⟩ := Cond.code_spec B.named h0
    cases Option.some.inj (h1.symm.trans B.method)
    cases Option.some.inj (h2.symm.trans (Stand.of_body B).code)
    rw [Array.isEmpty_iff.mp h7, hh]
    rfl
  rw [lg_entry_eq]
  generalize (lg_sl (args.map (cv_ G)) ++ List.replicate (M.2.2.1 - (lg_sl (args.map (cv_ G))).length) Slot.unset).toArray = lsA at hl ⊢
  refine K p e (ro_ d b) s m _ below meth c s.heap [] 0 0 lsA ⟨hG, B.exec, B.bytes, hml, B.returns, findClass_of_methodNamed B.named, fun w h => hts w (List.mem_cons_of_mem _ h), ⟨B.notSynchronized, (name_of_methodNamed B.named B.method).1⟩, tb, hB⟩ ⟨Nat.le_refl _, Nat.le_refl _, by simp [ro_], by simp [ro_]⟩ hP.1 hP.2 va_S.rf ⟨hl.1, hl.2.1, fun q hq => ?_⟩
  obtain ⟨i, v, h1, h2⟩ := pr_mem.mp hq
  refine hl.2.2 q ?_
  rw [lvargs_cv, h2]
  exact List.mem_map.mpr ⟨(0 + i, v), en_mem h1, rfl⟩
section
variable {G : GX} {d b : Nat} {M : MT} {pc : Nat} {ls : List (Option Value)} {st : List Value} {w : WS} {Z : ZT} {P : Option Value → WS → Prop}
theorem ev_iretP {v : Int32} {ty : FieldType} (hd : decode M.2.1 pc = .ok (.ireturn, 1)) (hr : M.2.2.2.1 = some ty) (hn : narrow ty (.int v) = .int v) (hp : P (some (.int v)) w) : Ev G d b M pc ls [.int v] w (zP_ G P) := by
  intro p e R s m args below meth c H locs cells slots lsA C r hP hD hS hL
  refine W.widen (k := R.cells) (n := R.slots) (by have := r.2.2.1; omega) (by have := r.2.2.2; omega) ?_
  exact W.zret C.2.1 C.2.2.1 (C.2.2.2.2.1.trans hr) hn (fun t ht hW => ⟨⟨_, w, hp, rfl, by rw [ht]; exact hP, hD⟩, hS.F ht⟩) hS.2.2 hd C.2.2.2.2.2.2.2.1.1
theorem ev_vretP (hd : decode M.2.1 pc = .ok (.return_, 1)) (hr : M.2.2.2.1 = none) (hp : P none w) : Ev G d b M pc ls [] w (zP_ G P) := by
  intro p e R s m args below meth c H locs cells slots lsA C r hP hD hS hL
  refine W.widen (k := R.cells) (n := R.slots) (by have := r.2.2.1; omega) (by have := r.2.2.2; omega) ?_
  exact W.vret C.2.1 C.2.2.1 (C.2.2.2.2.1.trans hr) (fun t ht hW => ⟨⟨_, w, hp, rfl, by rw [ht]; exact hP, hD⟩, hS.F ht⟩) hS.2.2 hd C.2.2.2.2.2.2.2.1.1
theorem ev_lretP {v : Int64} (hd : decode M.2.1 pc = .ok (.lreturn, 1)) (hr : M.2.2.2.1 = some .long) (hp : P (some (.long v)) w) : Ev G d b M pc ls [.long v] w (zP_ G P) := by
  intro p e R s m args below meth c H locs cells slots lsA C r hP hD hS hL
  refine W.widen (k := R.cells) (n := R.slots) (by have := r.2.2.1; omega) (by have := r.2.2.2; omega) ?_
  exact W.lret C.2.1 C.2.2.1 (C.2.2.2.2.1.trans hr) (fun t ht hW => ⟨⟨_, w, hp, rfl, by rw [ht]; exact hP, hD⟩, hS.F ht⟩) hS.2.2 hd C.2.2.2.2.2.2.2.1.1
theorem ev_aretP {v : Nat} {rt : FieldType} (hd : decode M.2.1 pc = .ok (.areturn, 1)) (hr : M.2.2.2.1 = some rt) (ht : (∃ n, rt = .object n) ∨ ∃ t, rt = .array t) (hp : P (some (.ref v)) w) : Ev G d b M pc ls [.ref v] w (zP_ G P) := by
  intro p e R s m args below meth c H locs cells slots lsA C r hP hD hS hL
  refine W.widen (k := R.cells) (n := R.slots) (by have := r.2.2.1; omega) (by have := r.2.2.2; omega) ?_
  exact W.aret C.2.1 C.2.2.1 (C.2.2.2.2.1.trans hr) ht (Or.inr ⟨_, rfl⟩) (fun t ht hW => ⟨⟨_, w, hp, rfl, by rw [ht]; exact hP, hD⟩, hS.F ht⟩) hS.2.2 hd C.2.2.2.2.2.2.2.1.1
/-- new cells -/
theorem fr_up {G : GX} {s : State} (h : gZ G ≤ s.heap.size) : ∀ q, s.heap.size ≤ q → fr_ G q := fun q hq => Nat.le_trans h hq
end
section
variable {G : GX} {d b : Nat} {M : MT} {pc : Nat} {ls : List (Option Value)} {st : List Value} {w : WS} {Z : ZT} {P : Option Value → WS → Prop}
theorem ev_newaT {at_ : ArrayType} {t : Nat} {ty : FieldType} {n : Nat} {zz : (Nat → Int32) ⊕ (Nat → Int64) ⊕ (Nat → UInt32) ⊕ (Nat → UInt64) ⊕ (Nat → Option Nat)} (harr : Cond.arrayClass (newarray.typeOf at_) ∈ gd_) (hty : newarray.typeOf at_ = ty) (htt : (tys_ G)[t]? = some (gC G t, ty)) (hra : ∀ (U : State) (c1 c2 : ClassId), va_RA U c1 ty → va_RA U c2 ty → c1 = c2) (ha : ∀ cA : ClassId, vp_cell cA (n, zz) = arrV cA n (fun _ => defaultValue ty)) (hcb : componentBytes ty ≤ 8) (hn : n ≤ 1000) (hb : n + 1 ≤ b) (hd : decode M.2.1 pc = .ok (.newarray at_, 2))
    (K : ∀ a, Ev G d (b - (n + 1)) M (pc + 2) ls (dy a :: st) (w.1, w.2 ++ [(a, .inl (gC G t, n, zz))]) Z) : Ev G d b M pc ls (.int (nI n) :: st) w Z := by
  intro p e R s m args below meth c H locs cells slots lsA C rr hP hD hS hL
  obtain ⟨r1, r2, r3, r4⟩ := rr
  refine va_newa (atype := at_) C.2.1 C.2.2.1 (C.2.2.2.2.2.2.1 _ harr) hty (bs_K C.2.2.2.2.2.2.2.2.2) hP hD hS (fr_up (bs_Z C.2.2.2.2.2.2.2.2.2)) (N' := n) (a0 := (n, zz)) ha (nI_pos (by omega)) (nI_clamp (by omega)) (Nat.le_trans (Nat.mul_le_mul hn hcb) (by decide)) (by omega) (by omega) hd (fun a cA H1 hK1 hP1 hD1 hS1 => ?_)
  have e1 := (hK1.2 t (gC G t, ty) (by rw [List.getElem?_append_left (List.getElem?_eq_some_iff.mp htt).1]; exact htt)).2
  have e2 := (hK1.2 6 (cA, ty) (by rfl)).2
  cases hra s _ _ e1 e2
  rw [wl_ta] at hP1 hD1
  have q := K a p e R s m args below meth c H1 locs (cells + (n + 1)) (slots + 16 * (n + 1)) lsA C ⟨r1, r2, by omega, by omega⟩ hP1 hD1 hS1 hL
  have e9 := cv_dy C.1 a
  have q : W p (gL G) e R s m args below meth c H1 locs (cells + (n + 1)) (slots + 16 * (n + 1)) _ (F0 m (pc + 2) lsA (cv_ G (dy a) :: st.map (cv_ G))) := q
  rw [e9] at q
  exact W.widen (by omega) (by omega) q
/-- what a new object stands on -/
def mk_ (own : String) (idx ci : Nat) (fs : List Value) : Prop := ∃ (C : String) (T : u_T) (N : Nat) (ty : Nat → FieldType), vwCl[ci]? = some (C, T, N) ∧ (∀ w ∈ u_ws C T N, w ∈ gd_) ∧ (∀ k, k < N → parseFieldDescriptor (T k).2.2.1 = some (ty k)) ∧ Cond.classLink own idx C ∈ gd_ ∧ Cond.instantiable C N ∈ gd_ ∧ Cond.initialized C ∈ gd_ ∧ (∀ j, j < N → defaultValue (ty j) = vp_V fs j) ∧ N ≤ 40
theorem ev_newT {idx ci : Nat} {fs : List Value} (hk : mk_ M.1.cls idx ci fs) (hb : 4 ≤ b) (hd : decode M.2.1 pc = .ok (.new idx, 3)) (K : ∀ a, Ev G d (b - 4) M (pc + 3) ls (dy a :: st) (w.1, w.2 ++ [(a, .inr (ci, fs))]) Z) : Ev G d b M pc ls st w Z := by
  intro p e R s m args below meth c H locs cells slots lsA C rr hP hD hS hL
  obtain ⟨r1, r2, r3, r4⟩ := rr
  obtain ⟨C0, T, N, ty, h1, h2, h3, h4, h5, h6, h7, h8⟩ := hk
  have hts := C.2.2.2.2.2.2.1
  refine va_new C.2.1 C.2.2.1 hts h2 ty h3 C.2.2.2.2.2.1 (hts _ h4) (hts _ h5) (hts _ h6) (bs_K C.2.2.2.2.2.2.2.2.2) hP hD hS (fr_up (bs_Z C.2.2.2.2.2.2.2.2.2)) h1 h7 (by omega) (by omega) hd (fun a H1 hP1 hD1 hS1 => ?_)
  rw [wl_ta] at hP1 hD1
  have q := K a p e R s m args below meth c H1 locs (cells + 4) (slots + 16 * 4) lsA C ⟨r1, r2, by omega, by omega⟩ hP1 hD1 hS1 hL
  have e9 := cv_dy C.1 a
  have q : W p (gL G) e R s m args below meth c H1 locs (cells + 4) (slots + 16 * 4) _ (F0 m (pc + 3) lsA (cv_ G (dy a) :: st.map (cv_ G))) := q
  rw [e9] at q
  exact W.widen (by omega) (by omega) q
theorem ev_objI {x idx : Nat} (hl : Cond.methodLink M.1.cls idx Lib.objectInit ∈ gd_) (h2 : Cond.instanceMethod Lib.objectInit ∈ gd_) (h3 : Cond.code Lib.objectInit ⟨#[0xb1]⟩ 1 none ∈ gd_) (hd : decode M.2.1 pc = .ok (.invokespecial idx, 3)) (hm : sm_ st = true) (K : Ev G d b M (pc + 3) ls st w Z) : Ev G d b M pc ls (.ref x :: st) w Z := by
  intro p e R s m args below meth c H locs cells slots lsA C r hP hD hS hL
  have hts := C.2.2.2.2.2.2.1
  refine W.objInit C.2.1 C.2.2.1 C.2.2.2.2.2.1 (hts _ hl) (hts _ h2) (hts _ h3) rfl (by rw [C.2.2.2.1]; exact hL.1) rfl hd (by have := r.1; omega) ?_ (K p e R s m args below meth c H locs cells slots lsA C r hP hD hS hL)
  have h8 : ((st.map (cv_ G)).map fun v => v.category).sum ≤ 8 := by
    rw [cv_sum]
    exact of_decide_eq_true hm
  have := r.2.1
  simp only [JFrame.monitorRoom]
  simp only [Nat.mul_zero, Nat.zero_add] at h8 ⊢
  simp at h8 ⊢
  omega
theorem ev_dupx1 {va vb : Value} (hd : decode M.2.1 pc = .ok (.dup_x1, 1)) (ha : va.category = 1) (hb : vb.category = 1) (K : Ev G d b M (pc + 1) ls (va :: vb :: va :: st) w Z) : Ev G d b M pc ls (va :: vb :: st) w Z := by
  intro p e R s m args below meth c H locs cells slots lsA C r hP hD hS hL
  exact lv_dup_x1 C.2.1 C.2.2.1 hd (by rw [cv_cat]; exact ha) (by rw [cv_cat]; exact hb) (K p e R s m args below meth c H locs cells slots lsA C r hP hD hS hL)
theorem ev_ishl {x y v : Int32} (hd : decode M.2.1 pc = .ok (.ishl, 1)) (hv : x <<< (y &&& 31) = v) (K : Ev G d b M (pc + 1) ls (.int v :: st) w Z) : Ev G d b M pc ls (.int y :: .int x :: st) w Z := by
  intro p e R s m args below meth c H locs cells slots lsA C r hP hD hS hL
  subst hv
  exact lv_ishl C.2.1 C.2.2.1 hd (K p e R s m args below meth c H locs cells slots lsA C r hP hD hS hL)
theorem ev_ior {x y v : Int32} (hd : decode M.2.1 pc = .ok (.ior, 1)) (hv : x ||| y = v) (K : Ev G d b M (pc + 1) ls (.int v :: st) w Z) : Ev G d b M pc ls (.int y :: .int x :: st) w Z := by
  intro p e R s m args below meth c H locs cells slots lsA C r hP hD hS hL
  subst hv
  exact lv_ior C.2.1 C.2.2.1 hd (K p e R s m args below meth c H locs cells slots lsA C r hP hD hS hL)
theorem ev_iushr {x y v : Int32} (hd : decode M.2.1 pc = .ok (.iushr, 1)) (hv : (x.toUInt32 >>> (y.toUInt32 &&& Int32.toUInt32 31)).toInt32 = v) (K : Ev G d b M (pc + 1) ls (.int v :: st) w Z) : Ev G d b M pc ls (.int y :: .int x :: st) w Z := by
  intro p e R s m args below meth c H locs cells slots lsA C r hP hD hS hL
  exact lv_iushr C.2.1 C.2.2.1 hd hv (K p e R s m args below meth c H locs cells slots lsA C r hP hD hS hL)
theorem ev_ineg {x : Int32} (hd : decode M.2.1 pc = .ok (.ineg, 1)) (K : Ev G d b M (pc + 1) ls (.int (0 - x) :: st) w Z) : Ev G d b M pc ls (.int x :: st) w Z := by
  intro p e R s m args below meth c H locs cells slots lsA C r hP hD hS hL
  exact lv_ineg C.2.1 C.2.2.1 hd (K p e R s m args below meth c H locs cells slots lsA C r hP hD hS hL)
theorem ev_ladd {x y : Int64} (hd : decode M.2.1 pc = .ok (.ladd, 1)) (K : Ev G d b M (pc + 1) ls (.long (x + y) :: st) w Z) : Ev G d b M pc ls (.long y :: .long x :: st) w Z := by
  intro p e R s m args below meth c H locs cells slots lsA C r hP hD hS hL
  exact lv_ladd C.2.1 C.2.2.1 hd (K p e R s m args below meth c H locs cells slots lsA C r hP hD hS hL)
theorem ev_lmul {x y : Int64} (hd : decode M.2.1 pc = .ok (.lmul, 1)) (K : Ev G d b M (pc + 1) ls (.long (x * y) :: st) w Z) : Ev G d b M pc ls (.long y :: .long x :: st) w Z := by
  intro p e R s m args below meth c H locs cells slots lsA C r hP hD hS hL
  exact lv_lmul C.2.1 C.2.2.1 hd (K p e R s m args below meth c H locs cells slots lsA C r hP hD hS hL)
theorem ev_ldc2 {i : Nat} {v : Int64} (hw : Cond.constantLong M.1.cls i v ∈ gd_) (hd : decode M.2.1 pc = .ok (.ldc2_w i, 3)) (K : Ev G d b M (pc + 3) ls (.long v :: st) w Z) : Ev G d b M pc ls st w Z := by
  intro p e R s m args below meth c H locs cells slots lsA C r hP hD hS hL
  exact lv_ldc2 C.2.1 C.2.2.1 C.2.2.2.2.2.1 (C.2.2.2.2.2.2.1 _ hw) hd (K p e R s m args below meth c H locs cells slots lsA C r hP hD hS hL)
theorem ev_ldci {i : Nat} {v : Int32} (hw : Cond.constant M.1.cls i v ∈ gd_) (hd : decode M.2.1 pc = .ok (.ldc i, 2)) (K : Ev G d b M (pc + 2) ls (.int v :: st) w Z) : Ev G d b M pc ls st w Z := by
  intro p e R s m args below meth c H locs cells slots lsA C r hP hD hS hL
  exact lv_ldc C.2.1 C.2.2.1 C.2.2.2.2.2.1 (C.2.2.2.2.2.2.1 _ hw) hd (K p e R s m args below meth c H locs cells slots lsA C r hP hD hS hL)
theorem ev_ldcwi {i : Nat} {v : Int32} (hw : Cond.constant M.1.cls i v ∈ gd_) (hd : decode M.2.1 pc = .ok (.ldc_w i, 3)) (K : Ev G d b M (pc + 3) ls (.int v :: st) w Z) : Ev G d b M pc ls st w Z := by
  intro p e R s m args below meth c H locs cells slots lsA C r hP hD hS hL
  exact lv_ldcw C.2.1 C.2.2.1 C.2.2.2.2.2.1 (C.2.2.2.2.2.2.1 _ hw) hd (K p e R s m args below meth c H locs cells slots lsA C r hP hD hS hL)
theorem ev_ldcwS {k : Nat} {tx : String} (i : Nat) (hi : sK[i]? = some (k, tx)) (hM : M.1.cls = "MapScalesLaw") (hd : decode M.2.1 pc = .ok (.ldc_w k, 3))
    (K : Ev G d b M (pc + 3) ls (.ref (2000 + i) :: st) w Z) : Ev G d b M pc ls st w Z := by
  intro p e R s m args below meth c H locs cells slots lsA C r hP hD hS hL
  have hB := C.2.2.2.2.2.2.2.2.2.2.2.2.2.2.2.2.1 i k tx hi
  intro T hT X
  obtain ⟨t, a1, b1⟩ := K p e R s m args below meth c H locs cells slots lsA C r hP hD hS hL T hT X
  exact ⟨t, X.ldcStringW C.2.1 (by rw [← hM]; exact C.2.2.2.2.2.1) (text := tx) (a := gA G (2000 + i)) hB.1 hB.2 (g := F0 m pc lsA (st.map (cv_ G))) rfl (by rw [C.2.2.1]; exact hd) t a1, b1⟩
end
/-! calls -/
theorem ev_backP {G : GX} {p : Program} {e : Env} {R : Room} {s : State} {m : MethodId} {args : Array Value} {below : List Frame} {meth : Method} {c : Code} {H : Heap} {locs : List Loc} {cells slots mc ms pc : Nat} {lsA : Array Slot} {st0 rest as : List Value} {Q : State → Prop} {P : Option Value → WS → Prop}
    (hr : va_Run p (gL G) e R s m args below meth c H locs cells slots mc ms (F0 m pc lsA st0) rest (qP_ G P as.toArray) (fr_ G)) (hS : va_S (fr_ G) s.heap H locs)
    (kk : ∀ (H1 : Heap) (locs1 : List Loc) (r0 : Option Value) (w' : WS), P r0 w' → va_P (gD G) vwCl (wl_ G w') H1 → va_D (fr_ G) (wl_ G w') → va_S (fr_ G) s.heap H1 locs1 → W p (gL G) e R s m args below meth c H1 locs1 (cells + mc) (slots + ms) Q (F0 m (pc + 3) lsA ((r0.map (cv_ G)).toList ++ rest))) : W p (gL G) e R s m args below meth c H locs cells slots Q (F0 m pc lsA st0) := by
  intro T hT X
  obtain ⟨v, st₀, t, T', L, h0, X', hL, e1, e2, ⟨⟨r', w', hpp, hv, hp, hdd⟩, hz, hk⟩, st⟩ := hr T hT X
  cases hv
  rw [h0] at hz hk
  obtain ⟨t2, a1, b1⟩ := kk T'.heap (locs ++ L) r' w' hpp (by rw [e1]; exact hp) hdd
    ⟨Nat.le_trans hS.1 (by rw [e1]; exact hz), fun q h1 h2 => by rw [e1, hk q (Nat.lt_of_lt_of_le h1 hS.1) h2]; exact hS.2.1 q h1 h2, fun q hq => by
      rcases List.mem_append.mp hq with h | h
      · exact hS.2.2 q h
      · exact hL q h⟩ T' rfl X'
  exact ⟨t2, st t2 a1, b1⟩
/-- the class of what a reference names -/
def rvc_ (G : GX) (w : WS) (x : Nat) (C : String) : Prop := ∀ (s : State) (H : Heap) (locs : List Loc), ok_G G → bs_ G s s.heap → va_P (gD G) vwCl (wl_ G w) H → va_S (fr_ G) s.heap H locs → ∃ cell : Cell, H[gA G x]? = some cell ∧ cell.vm.isStatics = false ∧ s.vm.findClass C = some cell.cls
theorem rv_T {G : GX} {w : WS} {a i ci : Nat} {fs : List Value} {q : vw_C} {C : String} (hi : w.2[i]? = some (a, .inr (ci, fs))) (hc : vwCl[ci]? = some q) (hq : q.1 = C) : rvc_ G w (10000 + a) C := by
  intro s H locs hG hB hP hS
  rw [ga_ hG]
  subst hq
  exact va_recv (bs_K hB) hP hc (q0 := 115 + i) (by rw [wl_tl]; exact hi)
theorem rv_S {G : GX} {w : WS} {i : Nat} (hi : i < sN.length) : rvc_ G w (2000 + i) "java/lang/String" := by
  intro s H locs hG hB hP hS
  obtain ⟨cell, h1, h2, h3, -⟩ := ((bs_S hB i hi).1).kept hS.2.1
  exact ⟨cell, h1, h2, h3⟩
theorem rv_0 {G : GX} {w : WS} {k : Nat} {C : String} (h : co_ k C) : rvc_ G w k C := fun s H locs _ hB hP _ => co_recv h (bs_K hB) hP
section
variable {G : GX} {d b : Nat} {M : MT} {pc : Nat} {ls : List (Option Value)} {st : List Value} {w : WS} {Z : ZT} {P : Option Value → WS → Prop}
theorem ev_callSP {d' b' : Nat} {M' : MT} {idx n : Nat} {as rest : List Value} (hl : sl_ M.1.cls idx M' n) (hc : BigP G d' b' M' as w P) (hd : decode M.2.1 pc = .ok (.invokestatic idx, 3)) (hn : as.length = n) (hlt : d' < d) (hb : b' ≤ b) (hm : sm_ rest = true)
    (K : ∀ r0 w', P r0 w' → Ev G d (b - b') M (pc + 3) ls (ps_ r0 rest) w' Z) : Ev G d b M pc ls (ra_ as rest) w Z := by
  intro p e R s m args below meth c H locs cells slots lsA C r hP hD hS hL
  obtain ⟨h1, h2, h3, h4, h5, h6, h7, h8, h9⟩ := hl
  have hts := C.2.2.2.2.2.2.1
  refine ev_backP (va_runS (As := as.map (cv_ G)) (rest := rest.map (cv_ G)) ⟨C.2.1, C.2.2.1, C.2.2.2.1, C.2.2.2.2.2.1, hts⟩ (hc C.1) ⟨cb_ C r hlt h1 h2 (hts _ h3) h5 h6 h7 h8 h9, hts _ h4⟩ ⟨pc_blind, pc_at C.1 C.2.2.2.2.2.2.2.2.2 hP hD hS⟩ rfl (by rw [List.length_map]; exact hn) hL.1 (ra_map G as rest) ?_ hd (rm_fit r hb)) hS (fun H1 locs1 r0 w' hpp hP1 hD1 hS1 => ?_)
  · rw [cv_sum]
    simpa [sm_, JFrame.monitorRoom] using hm
  · rw [← ps_map]
    exact K r0 w' hpp p e R s m args below meth c H1 locs1 _ _ lsA C (rm_after r hb) hP1 hD1 hS1 hL
theorem ev_callVg {d' b' : Nat} {M' : MT} {idx n k : Nat} {as rest : List Value} {w' : WS} {r0 : Option Value} (hl : vl_ M.1.cls idx M' n) (hk : rvc_ G w k M'.1.cls) (hc : Big G d' b' M' (.ref k :: as) w (.inl r0) w') (hd : decode M.2.1 pc = .ok (.invokevirtual idx, 3)) (hn : as.length = n) (hlt : d' < d) (hb : b' ≤ b) (hm : sm_ rest = true)
    (K : Ev G d (b - b') M (pc + 3) ls (ps_ r0 rest) w' Z) : Ev G d b M pc ls (ra_ as (.ref k :: rest)) w Z := by
  intro p e R s m args below meth c H locs cells slots lsA C r hP hD hS hL
  obtain ⟨h1, h2, h3, h4, h5, h6, h7, h8, h9⟩ := hl
  have hts := C.2.2.2.2.2.2.1
  refine ev_back (va_runV (As := as.map (cv_ G)) (rest := rest.map (cv_ G)) ⟨C.2.1, C.2.2.1, C.2.2.2.1, C.2.2.2.2.2.1, hts⟩ (met_of (hc C.1)) ⟨cb_ C r hlt h1 h2 (hts _ h3) h5 h6 h7 h8 h9, hts _ h4.1, hts _ h4.2⟩ ⟨pc_blind, hk s H locs C.1 C.2.2.2.2.2.2.2.2.2 hP hS, pc_at (args := .ref k :: as) C.1 C.2.2.2.2.2.2.2.2.2 hP hD hS⟩ rfl (by rw [List.length_map]; exact hn) hL.1 (ra_map G as (.ref k :: rest)) ?_ hd (rm_fit r hb)) hS (fun H1 locs1 hP1 hD1 hS1 => ?_)
  · rw [cv_sum]
    simpa [sm_, JFrame.monitorRoom] using hm
  · rw [← ps_map]
    exact K p e R s m args below meth c H1 locs1 _ _ lsA C (rm_after r hb) hP1 hD1 hS1 hL
theorem ev_callVP {d' b' : Nat} {M' : MT} {idx n k : Nat} {as rest : List Value} (hl : vl_ M.1.cls idx M' n) (hk : rvc_ G w k M'.1.cls) (hc : BigP G d' b' M' (.ref k :: as) w P) (hd : decode M.2.1 pc = .ok (.invokevirtual idx, 3)) (hn : as.length = n) (hlt : d' < d) (hb : b' ≤ b) (hm : sm_ rest = true)
    (K : ∀ r0 w', P r0 w' → Ev G d (b - b') M (pc + 3) ls (ps_ r0 rest) w' Z) : Ev G d b M pc ls (ra_ as (.ref k :: rest)) w Z := by
  intro p e R s m args below meth c H locs cells slots lsA C r hP hD hS hL
  obtain ⟨h1, h2, h3, h4, h5, h6, h7, h8, h9⟩ := hl
  have hts := C.2.2.2.2.2.2.1
  refine ev_backP (va_runV (As := as.map (cv_ G)) (rest := rest.map (cv_ G)) ⟨C.2.1, C.2.2.1, C.2.2.2.1, C.2.2.2.2.2.1, hts⟩ (hc C.1) ⟨cb_ C r hlt h1 h2 (hts _ h3) h5 h6 h7 h8 h9, hts _ h4.1, hts _ h4.2⟩ ⟨pc_blind, hk s H locs C.1 C.2.2.2.2.2.2.2.2.2 hP hS, pc_at (args := .ref k :: as) C.1 C.2.2.2.2.2.2.2.2.2 hP hD hS⟩ rfl (by rw [List.length_map]; exact hn) hL.1 (ra_map G as (.ref k :: rest)) ?_ hd (rm_fit r hb)) hS (fun H1 locs1 r0 w' hpp hP1 hD1 hS1 => ?_)
  · rw [cv_sum]
    simpa [sm_, JFrame.monitorRoom] using hm
  · rw [← ps_map]
    exact K r0 w' hpp p e R s m args below meth c H1 locs1 _ _ lsA C (rm_after r hb) hP1 hD1 hS1 hL
/-- a constructor called: of Object's own, a nest mate's -/
def il_ (own : String) (idx : Nat) (M : MT) (n : Nat) : Prop := cw_ M ∈ gd_ ∧ cw_ M = .code M.1 M.2.1 M.2.2.1 M.2.2.2.1 ∧ Cond.methodLink own idx M.1 ∈ gd_ ∧ Cond.instanceMethod M.1 ∈ gd_ ∧ Cond.initialized M.1.cls ∈ gd_ ∧ M.1.cls ≠ "java/lang/invoke/MethodHandle" ∧ M.1.cls ≠ "java/lang/invoke/VarHandle" ∧ (parseMethodDescriptor M.1.desc).map (fun d => d.parameters.length) = some n ∧ M.2.2.1 ≤ 40 ∧ M.1.name = "<init>" ∧ M.2.2.2.1 = none
theorem ev_callIP {d' b' : Nat} {M' : MT} {idx n q : Nat} {as rest : List Value} (hl : il_ M.1.cls idx M' n) (hc : BigP G d' b' M' (.ref q :: as) w P) (hd : decode M.2.1 pc = .ok (.invokespecial idx, 3)) (hn : as.length = n) (hlt : d' < d) (hb : b' ≤ b) (hm : sm_ rest = true)
    (K : ∀ r0 w', P r0 w' → Ev G d (b - b') M (pc + 3) ls (ps_ r0 rest) w' Z) : Ev G d b M pc ls (ra_ as (.ref q :: rest)) w Z := by
  intro p e R s m args below meth c H locs cells slots lsA C r hP hD hS hL
  obtain ⟨h1, h2, h3, h4, h5, h6, h7, h8, h9, h10, h11⟩ := hl
  have hts := C.2.2.2.2.2.2.1
  refine ev_backP (va_runI (As := as.map (cv_ G)) (rest := rest.map (cv_ G)) ⟨C.2.1, C.2.2.1, C.2.2.2.1, C.2.2.2.2.2.1, hts⟩ (hc C.1) ⟨callB_of (bytes := M'.2.1) (ws' := gd_) n hts (gd_in h1) (by unfold ws_; rw [h2, h11]) rfl rfl (hts _ h5) (hts _ h3) ⟨h6, h7, h8⟩ ⟨fo_ok r.1 hlt, lo_ok r.2.1 hlt h9⟩, h10, hts _ h4⟩ ⟨pc_blind, pc_at (args := .ref q :: as) C.1 C.2.2.2.2.2.2.2.2.2 hP hD hS⟩ rfl (by rw [List.length_map]; exact hn) hL.1 (ra_map G as (.ref q :: rest)) ?_ hd (rm_fit r hb)) hS (fun H1 locs1 r0 w' hpp hP1 hD1 hS1 => ?_)
  · rw [cv_sum]
    simpa [sm_, JFrame.monitorRoom] using hm
  · rw [← ps_map]
    exact K r0 w' hpp p e R s m args below meth c H1 locs1 _ _ lsA C (rm_after r hb) hP1 hD1 hS1 hL
end
/-! methods of AbstractStringBuilder upon a StringBuilder: inherited, private, by super -/
theorem kU_sel {C : String} {y z : MethodName} {s : State} {args : Array Value} {n : Nat} (hz : z.cls = y.cls) (hzs : (Cond.selects C z z).before args s = true) (hy : y.cls ≠ "java/lang/invoke/MethodHandle" ∧ y.cls ≠ "java/lang/invoke/VarHandle")
    (hins : (Cond.instantiable C n).before args s = true) (hpriv : (Cond.privateMethod y).before args s = true) (hinst : (Cond.instanceMethod y).before args s = true) :
    (Cond.selects C y y).before args s = true := by
  obtain ⟨c, k, hc, hk, -, -, -, -⟩ := Cond.instantiable_spec hins
  obtain ⟨mk, methM, hnamed, hmethM, -, -⟩ := Cond.instanceMethod_spec hinst
  have hfound : s.methodFound? y.cls y.name y.desc = some mk := State.methodFound?_of_named hnamed hy
  have hsel : selectMethod {} s.vm c mk = .method mk := selectMethod_private hmethM (Cond.privateMethod_at hpriv mk methM hnamed hmethM)
  obtain ⟨-, -, mz, -, -, hnz, -, kz, hkz, hiz⟩ := Cond.selects_spec hzs
  have e1 := findClass_of_methodNamed hnz
  rw [hz, findClass_of_methodNamed hnamed] at e1
  rw [← Option.some.inj e1] at hkz
  simp only [Cond.before, Cond.holds, Cond.value, hc, hfound, hnamed, hsel, hkz]
  simp [hiz]
/-- a method of AbstractStringBuilder, called upon a StringBuilder; how it is selected -/
def ul_ (own : String) (idx : Nat) (M : MT) (n : Nat) : Prop := cw_ M ∈ gd_ ∧ cw_ M = .code M.1 M.2.1 M.2.2.1 M.2.2.2.1 ∧ Cond.methodLink own idx M.1 ∈ gd_ ∧ Cond.instanceMethod M.1 ∈ gd_ ∧ Cond.initialized M.1.cls ∈ gd_ ∧ (M.1.cls ≠ "java/lang/invoke/MethodHandle" ∧ M.1.cls ≠ "java/lang/invoke/VarHandle") ∧ (parseMethodDescriptor M.1.desc).map (fun d => d.parameters.length) = some n ∧ M.2.2.1 ≤ 40 ∧ Cond.sameMethod M.1.cls M.1.cls M.1.name M.1.desc ∈ gd_ ∧ (Cond.selects "java/lang/StringBuilder" M.1 M.1 ∈ gd_ ∨ (Cond.privateMethod M.1 ∈ gd_ ∧ Cond.instantiable "java/lang/StringBuilder" 4 ∈ gd_ ∧ ∃ z : MethodName, z.cls = M.1.cls ∧ Cond.selects "java/lang/StringBuilder" z z ∈ gd_))
theorem ul_cu {G : GX} {d b d' b' : Nat} {M M' : MT} {idx n : Nat} {p : Program} {R : Room} {s : State} {m : MethodId} {args : Array Value} {meth : Method} {c : Code} {cells slots : Nat} (hl : ul_ M.1.cls idx M' n) (C : cx_ G M p s m args meth c) (r : rm_ d b R cells slots) (hlt : d' < d) : va_CU R s args M.1.cls "java/lang/StringBuilder" M'.1.cls idx M'.1 M'.1 M'.2.1 M'.2.2.1 M'.2.2.2.1 (ws_ M') (ro_ d' b') b' (16 * b') n := by
  obtain ⟨h1, h2, h3, h4, h5, h6, h7, h8, h9, h10⟩ := hl
  have hts := C.2.2.2.2.2.2.1
  have hw : ws_ M' = Cond.code M'.1 M'.2.1 M'.2.2.1 M'.2.2.2.1 :: gd_ := by unfold ws_; rw [h2]
  have hc : Cond.code M'.1 M'.2.1 M'.2.2.1 M'.2.2.2.1 ∈ ws_ M' := by rw [hw]; exact List.mem_cons_self
  have hcode : (Cond.code M'.1 M'.2.1 M'.2.2.1 M'.2.2.2.1).before args s = true := hts _ (by rw [← h2]; exact h1)
  refine ⟨⟨rfl, rfl, fo_ok r.1 hlt, lo_ok r.2.1 hlt h8, pay_in hts (gd_in h1), hc⟩, hcode, hts _ h5, h6, fun sig h => ?_, hts _ h3, hts _ h9, va_Decl.of (hts _ h4) hcode, ?_, hts _ h4⟩
  · rw [h] at h7
    exact (Option.some.inj h7).symm
  · rcases h10 with h | ⟨h, h', z, hz, h''⟩
    · exact hts _ h
    · exact kU_sel hz (hts _ h'') h6 (hts _ h') (hts _ h) (hts _ h4)
section
variable {G : GX} {d b : Nat} {M : MT} {pc : Nat} {ls : List (Option Value)} {st : List Value} {w : WS} {Z : ZT} {P : Option Value → WS → Prop}
theorem ev_callUg {d' b' : Nat} {M' : MT} {idx n k : Nat} {as rest : List Value} {w' : WS} {r0 : Option Value} (hl : ul_ M.1.cls idx M' n) (hk : rvc_ G w k "java/lang/StringBuilder") (hc : Big G d' b' M' (.ref k :: as) w (.inl r0) w') (hd : decode M.2.1 pc = .ok (.invokevirtual idx, 3)) (hn : as.length = n) (hlt : d' < d) (hb : b' ≤ b) (hm : sm_ rest = true)
    (K : Ev G d (b - b') M (pc + 3) ls (ps_ r0 rest) w' Z) : Ev G d b M pc ls (ra_ as (.ref k :: rest)) w Z := by
  intro p e R s m args below meth c H locs cells slots lsA C r hP hD hS hL
  have hts := C.2.2.2.2.2.2.1
  refine ev_back (va_runU (As := as.map (cv_ G)) (rest := rest.map (cv_ G)) ⟨C.2.1, C.2.2.1, C.2.2.2.1, C.2.2.2.2.2.1, hts⟩ (met_of (hc C.1)) (ul_cu hl C r hlt) ⟨pc_blind, hk s H locs C.1 C.2.2.2.2.2.2.2.2.2 hP hS, pc_at (args := .ref k :: as) C.1 C.2.2.2.2.2.2.2.2.2 hP hD hS⟩ rfl (by rw [List.length_map]; exact hn) hL.1 (ra_map G as (.ref k :: rest)) ?_ hd (rm_fit r hb)) hS (fun H1 locs1 hP1 hD1 hS1 => ?_)
  · rw [cv_sum]
    simpa [sm_, JFrame.monitorRoom] using hm
  · rw [← ps_map]
    exact K p e R s m args below meth c H1 locs1 _ _ lsA C (rm_after r hb) hP1 hD1 hS1 hL
theorem ev_callUP {d' b' : Nat} {M' : MT} {idx n k : Nat} {as rest : List Value} (hl : ul_ M.1.cls idx M' n) (hk : rvc_ G w k "java/lang/StringBuilder") (hc : BigP G d' b' M' (.ref k :: as) w P) (hd : decode M.2.1 pc = .ok (.invokevirtual idx, 3)) (hn : as.length = n) (hlt : d' < d) (hb : b' ≤ b) (hm : sm_ rest = true)
    (K : ∀ r0 w', P r0 w' → Ev G d (b - b') M (pc + 3) ls (ps_ r0 rest) w' Z) : Ev G d b M pc ls (ra_ as (.ref k :: rest)) w Z := by
  intro p e R s m args below meth c H locs cells slots lsA C r hP hD hS hL
  have hts := C.2.2.2.2.2.2.1
  refine ev_backP (va_runU (As := as.map (cv_ G)) (rest := rest.map (cv_ G)) ⟨C.2.1, C.2.2.1, C.2.2.2.1, C.2.2.2.2.2.1, hts⟩ (hc C.1) (ul_cu hl C r hlt) ⟨pc_blind, hk s H locs C.1 C.2.2.2.2.2.2.2.2.2 hP hS, pc_at (args := .ref k :: as) C.1 C.2.2.2.2.2.2.2.2.2 hP hD hS⟩ rfl (by rw [List.length_map]; exact hn) hL.1 (ra_map G as (.ref k :: rest)) ?_ hd (rm_fit r hb)) hS (fun H1 locs1 r0 w' hpp hP1 hD1 hS1 => ?_)
  · rw [cv_sum]
    simpa [sm_, JFrame.monitorRoom] using hm
  · rw [← ps_map]
    exact K r0 w' hpp p e R s m args below meth c H1 locs1 _ _ lsA C (rm_after r hb) hP1 hD1 hS1 hL
end
/-- by super -/
def ol_ (own : String) (idx : Nat) (M : MT) (n : Nat) : Prop := cw_ M ∈ gd_ ∧ cw_ M = .code M.1 M.2.1 M.2.2.1 M.2.2.2.1 ∧ (∀ w ∈ ([.methodLink own idx M.1, .sameMethod M.1.cls M.1.cls M.1.name M.1.desc, .superclass own M.1.cls, .instanceMethod M.1, .initialized M.1.cls] : List Cond), w ∈ gd_) ∧ (M.1.name ≠ "<init>" ∧ (parseMethodDescriptor M.1.desc).map (fun d => d.parameters.length) = some n) ∧ M.2.2.1 ≤ 40
theorem ol_cs {G : GX} {d b d' b' : Nat} {M M' : MT} {idx n : Nat} {p : Program} {R : Room} {s : State} {m : MethodId} {args : Array Value} {meth : Method} {c : Code} {cells slots : Nat} (hl : ol_ M.1.cls idx M' n) (C : cx_ G M p s m args meth c) (r : rm_ d b R cells slots) (hlt : d' < d) : va_CS R s args M.1.cls idx M'.1 M'.2.1 M'.2.2.1 M'.2.2.2.1 (ws_ M') (ro_ d' b') b' (16 * b') n := by
  obtain ⟨h1, h2, h3, h4, h5⟩ := hl
  have hts := C.2.2.2.2.2.2.1
  have hw : ws_ M' = Cond.code M'.1 M'.2.1 M'.2.2.1 M'.2.2.2.1 :: gd_ := by unfold ws_; rw [h2]
  refine va_cwSU n hts (fun w hw9 => ?_) hw rfl rfl h4 ⟨fo_ok r.1 hlt, lo_ok r.2.1 hlt h5⟩
  unfold va_wsSU at hw9
  rcases List.mem_append.mp hw9 with h | h
  · exact ⟨h3 w h, good_of_word (gd_good (h3 w h))⟩
  · exact gd_in h1 w h
theorem sb_cA {G : GX} {s : State} (hB : bs_ G s s.heap) : ∃ c, ClassAt s "java/lang/StringBuilder" c := ⟨_, ((bs_K hB).1 1 _ rfl).2⟩
section
variable {G : GX} {d b : Nat} {M : MT} {pc : Nat} {ls : List (Option Value)} {st : List Value} {w : WS} {Z : ZT} {P : Option Value → WS → Prop}
theorem ev_callOg {d' b' : Nat} {M' : MT} {idx n k : Nat} {as rest : List Value} {w' : WS} {r0 : Option Value} (hl : ol_ M.1.cls idx M' n) (hk : rvc_ G w k "java/lang/StringBuilder") (hc : Big G d' b' M' (.ref k :: as) w (.inl r0) w') (hd : decode M.2.1 pc = .ok (.invokespecial idx, 3)) (hn : as.length = n) (hlt : d' < d) (hb : b' ≤ b) (hm : sm_ rest = true)
    (K : Ev G d (b - b') M (pc + 3) ls (ps_ r0 rest) w' Z) : Ev G d b M pc ls (ra_ as (.ref k :: rest)) w Z := by
  intro p e R s m args below meth c H locs cells slots lsA C r hP hD hS hL
  have hts := C.2.2.2.2.2.2.1
  obtain ⟨cA, hcA⟩ := sb_cA C.2.2.2.2.2.2.2.2.2
  refine ev_back (va_runSU (As := as.map (cv_ G)) (rest := rest.map (cv_ G)) hcA ⟨C.2.1, C.2.2.1, C.2.2.2.1, C.2.2.2.2.2.1, hts⟩ (met_of (hc C.1)) (ol_cs hl C r hlt) ⟨pc_blind, hk s H locs C.1 C.2.2.2.2.2.2.2.2.2 hP hS, pc_at (args := .ref k :: as) C.1 C.2.2.2.2.2.2.2.2.2 hP hD hS⟩ rfl (by rw [List.length_map]; exact hn) hL.1 (ra_map G as (.ref k :: rest)) ?_ hd (rm_fit r hb)) hS (fun H1 locs1 hP1 hD1 hS1 => ?_)
  · rw [cv_sum]
    simpa [sm_, JFrame.monitorRoom] using hm
  · rw [← ps_map]
    exact K p e R s m args below meth c H1 locs1 _ _ lsA C (rm_after r hb) hP1 hD1 hS1 hL
theorem ev_callOP {d' b' : Nat} {M' : MT} {idx n k : Nat} {as rest : List Value} (hl : ol_ M.1.cls idx M' n) (hk : rvc_ G w k "java/lang/StringBuilder") (hc : BigP G d' b' M' (.ref k :: as) w P) (hd : decode M.2.1 pc = .ok (.invokespecial idx, 3)) (hn : as.length = n) (hlt : d' < d) (hb : b' ≤ b) (hm : sm_ rest = true)
    (K : ∀ r0 w', P r0 w' → Ev G d (b - b') M (pc + 3) ls (ps_ r0 rest) w' Z) : Ev G d b M pc ls (ra_ as (.ref k :: rest)) w Z := by
  intro p e R s m args below meth c H locs cells slots lsA C r hP hD hS hL
  have hts := C.2.2.2.2.2.2.1
  obtain ⟨cA, hcA⟩ := sb_cA C.2.2.2.2.2.2.2.2.2
  refine ev_backP (va_runSU (As := as.map (cv_ G)) (rest := rest.map (cv_ G)) hcA ⟨C.2.1, C.2.2.1, C.2.2.2.1, C.2.2.2.2.2.1, hts⟩ (hc C.1) (ol_cs hl C r hlt) ⟨pc_blind, hk s H locs C.1 C.2.2.2.2.2.2.2.2.2 hP hS, pc_at (args := .ref k :: as) C.1 C.2.2.2.2.2.2.2.2.2 hP hD hS⟩ rfl (by rw [List.length_map]; exact hn) hL.1 (ra_map G as (.ref k :: rest)) ?_ hd (rm_fit r hb)) hS (fun H1 locs1 r0 w' hpp hP1 hD1 hS1 => ?_)
  · rw [cv_sum]
    simpa [sm_, JFrame.monitorRoom] using hm
  · rw [← ps_map]
    exact K r0 w' hpp p e R s m args below meth c H1 locs1 _ _ lsA C (rm_after r hb) hP1 hD1 hS1 hL
end
/-- a method that StringBuilder has over AbstractStringBuilder's -/
def vo_ (own : String) (idx : Nat) (x : MethodName) (M : MT) (n : Nat) : Prop := cw_ M ∈ gd_ ∧ cw_ M = .code M.1 M.2.1 M.2.2.1 M.2.2.2.1 ∧ (∀ w ∈ ([.methodLink own idx x, .sameMethod x.cls x.cls x.name x.desc, .instanceMethod ⟨x.cls, x.name, x.desc⟩, .selects "java/lang/StringBuilder" x M.1, .instanceMethod M.1, .initialized M.1.cls] : List Cond), w ∈ gd_) ∧ (x.cls ≠ "java/lang/invoke/MethodHandle" ∧ x.cls ≠ "java/lang/invoke/VarHandle" ∧ (parseMethodDescriptor x.desc).map (fun d => d.parameters.length) = some n) ∧ M.2.2.1 ≤ 40 ∧ ∃ (b0 : ByteArray) (m0 : Nat) (r0 : Option FieldType), Cond.code ⟨x.cls, x.name, x.desc⟩ b0 m0 r0 ∈ gd_
theorem ev_callHg {G : GX} {d b : Nat} {M : MT} {pc : Nat} {ls : List (Option Value)} {w : WS} {Z : ZT} {d' b' : Nat} {M' : MT} {x : MethodName} {idx n k : Nat} {as rest : List Value} {w' : WS} {r0 : Option Value} (hl : vo_ M.1.cls idx x M' n) (hk : rvc_ G w k "java/lang/StringBuilder") (hc : Big G d' b' M' (.ref k :: as) w (.inl r0) w') (hd : decode M.2.1 pc = .ok (.invokevirtual idx, 3)) (hn : as.length = n) (hlt : d' < d) (hb : b' ≤ b) (hm : sm_ rest = true)
    (K : Ev G d (b - b') M (pc + 3) ls (ps_ r0 rest) w' Z) : Ev G d b M pc ls (ra_ as (.ref k :: rest)) w Z := by
  intro p e R s m args below meth c H locs cells slots lsA C r hP hD hS hL
  have hts := C.2.2.2.2.2.2.1
  obtain ⟨h1, h2, h3, h4, h5, b0, m0, q0, h6⟩ := hl
  have hw : ws_ M' = Cond.code M'.1 M'.2.1 M'.2.2.1 M'.2.2.2.1 :: gd_ := by unfold ws_; rw [h2]
  refine ev_back (va_runU (As := as.map (cv_ G)) (rest := rest.map (cv_ G)) ⟨C.2.1, C.2.2.1, C.2.2.2.1, C.2.2.2.2.2.1, hts⟩ (met_of (hc C.1)) (va_cwO (owner := x.cls) n hts (fun w hw9 => ?_) hw rfl rfl h6 h4 ⟨fo_ok r.1 hlt, lo_ok r.2.1 hlt h5⟩) ⟨pc_blind, hk s H locs C.1 C.2.2.2.2.2.2.2.2.2 hP hS, pc_at (args := .ref k :: as) C.1 C.2.2.2.2.2.2.2.2.2 hP hD hS⟩ rfl (by rw [List.length_map]; exact hn) hL.1 (ra_map G as (.ref k :: rest)) ?_ hd (rm_fit r hb)) hS (fun H1 locs1 hP1 hD1 hS1 => ?_)
  · unfold va_wsO at hw9
    rcases List.mem_append.mp hw9 with h | h
    · exact ⟨h3 w h, good_of_word (gd_good (h3 w h))⟩
    · exact gd_in h1 w h
  · rw [cv_sum]
    simpa [sm_, JFrame.monitorRoom] using hm
  · rw [← ps_map]
    exact K p e R s m args below meth c H1 locs1 _ _ lsA C (rm_after r hb) hP1 hD1 hS1 hL
