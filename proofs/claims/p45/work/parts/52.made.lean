/-! objects made: the world as a list that grows -/
/-- what holds of the start, and that an array of charts can be made -/
def bc_ (G : GX) (U : State) (H : Heap) : Prop := bs_ G U H ∧ va_AO "MapScales$Chart" U
def cxC (G : GX) (M : MT) (p : Program) (s : State) (m : MethodId) (args : Array Value) (meth : Method) (c : Code) : Prop :=
  gZ G ≤ s.heap.size ∧ p.tables.exec = Jvm.exec ∧ c.code = M.2.1 ∧ c.maxLocals = M.2.2.1 ∧ meth.sig.returnType = M.2.2.2.1 ∧ s.vm.findClass M.1.cls = some m.cls ∧ (∀ w ∈ gd_, w.before args s = true) ∧ (meth.locks = false ∧ c.exceptionTable.toList = []) ∧ meth.name = M.1.name ∧ bc_ G s s.heap
def Ec (G : GX) (d b : Nat) (M : MT) (pc : Nat) (L : List (Nat × Value)) (st : List Value) (ws : va_W) (Z : ZT) : Prop :=
  ∀ (p : Program) (e : Env) (R : Room) (s : State) (m : MethodId) (args : Array Value) (below : List Frame) (meth : Method) (c : Code) (H : Heap) (locs : List Loc) (cells slots : Nat) (lsA : Array Slot),
    cxC G M p s m args meth c → rm_ d b R cells slots → va_P (gD G) vwCl ws H → va_D (fr_ G) ws → va_S (fr_ G) s.heap H locs → lv_has lsA M.2.2.1 L →
    W p (gL G) e R s m args below meth c H locs cells slots (Z R below args s) (F0 m pc lsA st)
def pcC (G : GX) (args : List Value) (ws : va_W) : Array Value → State → Prop := va_Pc args (fun U => (va_P (gD G) vwCl ws U.heap ∧ gZ G ≤ U.heap.size) ∧ bc_ G U U.heap)
def qcC (G : GX) (post : va_W → Prop) : Array Value → State → Outcome → State → Prop := fun _ st oc t => (oc = .returned none ∧ ∃ ws', post ws' ∧ va_P (gD G) vwCl ws' t.heap ∧ va_D (fr_ G) ws') ∧ va_F (fr_ G) st t
def zc_ (G : GX) (post : va_W → Prop) : ZT := fun R below args s => MQ below (qcC G post) args s R.cells R.slots (fr_ G)
def BigC (G : GX) (d b : Nat) (M : MT) (args : List Value) (ws : va_W) (post : va_W → Prop) : Prop :=
  gA G 1000 < gZ G → va_D (fr_ G) ws → Met (gL G) M.1 (ws_ M) (ro_ d b) (pcC G args ws) (qcC G post) b (16 * b) (fr_ G)
theorem bs_mv {G : GX} {s U : State} {H : Heap} {locs : List Loc} (hB : bc_ G s s.heap) (hW : s.WarmedH U.vm) (hS : va_S (fr_ G) s.heap H locs) (hU : U.heap = H) (hG : gA G 1000 < gZ G) : bc_ G U U.heap := by
  obtain ⟨⟨h1, h2, h3, h4, h5, h6, h7, h8, h9, h10, h11⟩, h12⟩ := hB
  have hq : ∀ a : Nat, a < s.heap.size → ¬ fr_ G a → H[a]? = s.heap[a]? := hS.2.1
  have hal := hW.alike
  subst hU
  refine ⟨⟨va_K.moved hal h1, ⟨va_X.moved hal (h2.1.kept (hq _ ?_ ?_)), Nat.le_trans h2.2 hS.1⟩, vx_Zq.moved hal (h3.kept hq), vx_Zq.moved hal (h4.kept hq), vS_.moved hal (h5.kept hq), ⟨⟨h6.1.1.kept hq |>.moved hal, h6.1.2.1.kept hq |>.moved hal, va_Z.moved hal (h6.1.2.2.kept hq)⟩, by obtain ⟨x, hx, hz⟩ := h6.2; exact ⟨x, hx, va_Z.moved hal (hz.kept hq)⟩⟩, fun own k tx h => ?_, fun i k tx h => (h8 i k tx h).warm hW, fun q h => (h9 q h).moved hal, fun own k y hh h => (h10 own k y hh h).warmM hW, fun w h hn => nw_warm hn hW (h11 w h hn)⟩, va_AO.moved hal h12⟩
  · obtain ⟨scr, hh, -⟩ := h2.1
    exact (Array.getElem?_eq_some_iff.mp hh).1
  · exact fun h => absurd hG (Nat.not_lt.mpr h)
  · obtain ⟨a, ha⟩ := h7 own k tx h
    exact ⟨a, ha.warm hW⟩
theorem pcC_blind {G : GX} {args : List Value} {ws : va_W} : FrameBlind (pcC G args ws) := fun a U g mk h => ⟨h.1, h.2.1, by
  obtain ⟨⟨h1, h2, h3, h4, h5, h6, h7, h8, h9, h10, h11⟩, h12⟩ := h.2.2
  have hal : U.vm.Alike (U.calling g mk a).vm := Vm.Alike.refl U.vm
  refine ⟨⟨va_K.moved hal h1, ⟨va_X.moved hal h2.1, h2.2⟩, vx_Zq.moved hal h3, vx_Zq.moved hal h4, vS_.moved hal h5, ⟨⟨h6.1.1.moved hal, h6.1.2.1.moved hal, va_Z.moved hal h6.1.2.2⟩, by obtain ⟨x, hx, hz⟩ := h6.2; exact ⟨x, hx, va_Z.moved hal hz⟩⟩, fun own k tx hh => ?_, fun i k tx hh => (h8 i k tx hh).same rfl, fun q hh => (h9 q hh).moved hal, fun own k y hh h9 => va_Nw.same rfl rfl (h10 own k y hh h9), fun w h9 hn => va_tabs (nw_tab hn) (rfl : U.vm = (U.calling g mk a).vm) (h11 w h9 hn)⟩, va_AO.moved hal h12⟩
  obtain ⟨a9, h9⟩ := h7 own k tx hh
  exact ⟨a9, h9.same rfl⟩⟩
theorem kc_of {G : GX} {d b : Nat} {M : MT} {args : List Value} {ws : va_W} {post : va_W → Prop} (hy : plainName M.1.cls = true) (hh : M.2.2.2.2 = []) (hn : (lg_sl args).length ≤ M.2.2.1) (K : Ec G d b M 0 (lv_args 0 args) [] ws (zc_ G post)) : BigC G d b M args ws post := by
  intro hG hD
  refine Met.ofW (cc := M.2.1) (maxL := M.2.2.1) (ret := M.2.2.2.1) (ws' := gd_) hy (by unfold ws_ cw_; rw [if_pos hh]) ?_
  intro p e s m as below meth c s₁ B hml hv
  obtain ⟨rfl, hP, hB⟩ := hv
  have hts := atoms_spec (ws := ws_ M) B.pre
  have hl := lv_entry args (n := M.2.2.1) hn
  have tb : c.exceptionTable.toList = [] := by
    have h0 := atoms_spec (ws := ws_ M) B.pre _ List.mem_cons_self
    unfold cw_ at h0
    rw [if_pos hh] at h0
    obtain ⟨meth9, c9, h1, h2, -, -, -, -, h7, -⟩ := Cond.code_spec B.named h0
    cases Option.some.inj (h1.symm.trans B.method)
    cases Option.some.inj (h2.symm.trans (Stand.of_body B).code)
    rw [Array.isEmpty_iff.mp h7]
  rw [lg_entry_eq]
  exact K p e (ro_ d b) s m _ below meth c s.heap [] 0 0 _ ⟨hP.2, B.exec, B.bytes, hml, B.returns, findClass_of_methodNamed B.named, fun w h => hts w (List.mem_cons_of_mem _ h), ⟨B.notSynchronized, tb⟩, (name_of_methodNamed B.named B.method).1, hB⟩ ⟨Nat.le_refl _, Nat.le_refl _, by simp [ro_], by simp [ro_]⟩ hP.1 hD va_S.rf hl
section
variable {G : GX} {d b : Nat} {M : MT} {pc : Nat} {L : List (Nat × Value)} {st : List Value} {ws : va_W} {Z : ZT}
theorem kc_w {ws' : va_W} (h : ws = ws') (K : Ec G d b M pc L st ws' Z) : Ec G d b M pc L st ws Z := by rw [h]; exact K
theorem kc_st {st' : List Value} (h : st = st') (K : Ec G d b M pc L st' ws Z) : Ec G d b M pc L st ws Z := by rw [h]; exact K
theorem kc_aload {k : Fin 4} {x : Nat} (hd : decode M.2.1 pc = .ok (.aload_n k, 1)) (j : Nat) (hl : L[j]? = some ((k : Nat), Value.ref x)) (K : Ec G d b M (pc + 1) L (.ref x :: st) ws Z) : Ec G d b M pc L st ws Z := by
  intro p e R s m args below meth c H locs cells slots lsA C r hP hD hS hL
  exact lv_aload_n C.2.1 C.2.2.1 hd rfl (lv_at hL j hl) (K p e R s m args below meth c H locs cells slots lsA C r hP hD hS hL)
theorem kc_iload {k : Fin 4} {x : Int32} (hd : decode M.2.1 pc = .ok (.iload_n k, 1)) (j : Nat) (hl : L[j]? = some ((k : Nat), Value.int x)) (K : Ec G d b M (pc + 1) L (.int x :: st) ws Z) : Ec G d b M pc L st ws Z := by
  intro p e R s m args below meth c H locs cells slots lsA C r hP hD hS hL
  exact lv_iload_n C.2.1 C.2.2.1 hd rfl (lv_at hL j hl) (K p e R s m args below meth c H locs cells slots lsA C r hP hD hS hL)
theorem kc_iconst {n : Int} {v : Int32} (hd : decode M.2.1 pc = .ok (.iconst n, 1)) (hv : Int32.ofInt n = v) (K : Ec G d b M (pc + 1) L (.int v :: st) ws Z) : Ec G d b M pc L st ws Z := by
  intro p e R s m args below meth c H locs cells slots lsA C r hP hD hS hL
  exact lv_iconst C.2.1 C.2.2.1 hd hv (K p e R s m args below meth c H locs cells slots lsA C r hP hD hS hL)
theorem kc_bipush {n : Int} {v : Int32} (hd : decode M.2.1 pc = .ok (.bipush n, 2)) (hv : (Int8.ofInt n).toInt32 = v) (K : Ec G d b M (pc + 2) L (.int v :: st) ws Z) : Ec G d b M pc L st ws Z := by
  intro p e R s m args below meth c H locs cells slots lsA C r hP hD hS hL
  exact lv_bipush C.2.1 C.2.2.1 hd hv (K p e R s m args below meth c H locs cells slots lsA C r hP hD hS hL)
theorem kc_sipush {n : Int} {v : Int32} (hd : decode M.2.1 pc = .ok (.sipush n, 3)) (hv : (Int16.ofInt n).toInt32 = v) (K : Ec G d b M (pc + 3) L (.int v :: st) ws Z) : Ec G d b M pc L st ws Z := by
  intro p e R s m args below meth c H locs cells slots lsA C r hP hD hS hL
  exact lv_sipush C.2.1 C.2.2.1 hd hv (K p e R s m args below meth c H locs cells slots lsA C r hP hD hS hL)
theorem kc_dup {x : Nat} (hd : decode M.2.1 pc = .ok (.dup, 1)) (K : Ec G d b M (pc + 1) L (.ref x :: .ref x :: st) ws Z) : Ec G d b M pc L (.ref x :: st) ws Z := by
  intro p e R s m args below meth c H locs cells slots lsA C r hP hD hS hL
  exact lv_dup C.2.1 C.2.2.1 hd rfl (K p e R s m args below meth c H locs cells slots lsA C r hP hD hS hL)
theorem kc_imul {x y : Int32} (hd : decode M.2.1 pc = .ok (.imul, 1)) (K : Ec G d b M (pc + 1) L (.int (x * y) :: st) ws Z) : Ec G d b M pc L (.int y :: .int x :: st) ws Z := by
  intro p e R s m args below meth c H locs cells slots lsA C r hP hD hS hL
  exact lv_imul C.2.1 C.2.2.1 hd (K p e R s m args below meth c H locs cells slots lsA C r hP hD hS hL)
theorem kc_iadd {x y : Int32} (hd : decode M.2.1 pc = .ok (.iadd, 1)) (K : Ec G d b M (pc + 1) L (.int (x + y) :: st) ws Z) : Ec G d b M pc L (.int y :: .int x :: st) ws Z := by
  intro p e R s m args below meth c H locs cells slots lsA C r hP hD hS hL
  exact lv_iadd C.2.1 C.2.2.1 hd (K p e R s m args below meth c H locs cells slots lsA C r hP hD hS hL)
theorem kc_goto {off : Int} {tgt : Nat} (hd : decode M.2.1 pc = .ok (.goto off, 3)) (ht : (pc : Int) + off = (tgt : Int)) (K : Ec G d b M tgt L st ws Z) : Ec G d b M pc L st ws Z := by
  intro p e R s m args below meth c H locs cells slots lsA C r hP hD hS hL
  exact lv_goto C.2.1 C.2.2.1 hd ht (K p e R s m args below meth c H locs cells slots lsA C r hP hD hS hL)
theorem kc_ge_t {x y : Int32} {off : Int} {tgt : Nat} (hd : decode M.2.1 pc = .ok (.if_icmp .ge off, 3)) (ht : (pc : Int) + off = (tgt : Int)) (h : y ≤ x) (K : Ec G d b M tgt L st ws Z) : Ec G d b M pc L (.int y :: .int x :: st) ws Z := by
  intro p e R s m args below meth c H locs cells slots lsA C r hP hD hS hL
  exact lv_icmp_ge C.2.1 C.2.2.1 hd ht (fun hh => K p e R s m args below meth c H locs cells slots lsA C r hP hD hS hL) (fun hh => absurd h hh)
theorem kc_ge_f {x y : Int32} {off : Int} {tgt : Nat} (hd : decode M.2.1 pc = .ok (.if_icmp .ge off, 3)) (ht : (pc : Int) + off = (tgt : Int)) (h : ¬ y ≤ x) (K : Ec G d b M (pc + 3) L st ws Z) : Ec G d b M pc L (.int y :: .int x :: st) ws Z := by
  intro p e R s m args below meth c H locs cells slots lsA C r hP hD hS hL
  exact lv_icmp_ge C.2.1 C.2.2.1 hd ht (fun hh => absurd hh h) (fun hh => K p e R s m args below meth c H locs cells slots lsA C r hP hD hS hL)
theorem kc_ist {k : Fin 4} {x : Int32} {L' : List (Nat × Value)} (hd : decode M.2.1 pc = .ok (.istore_n k, 1)) (hn : (k : Nat) < M.2.2.1) (hl : ((k : Nat), Value.int x) :: L.filter (fun q => !(q.1 == (k : Nat)) && !(q.1 + 1 == (k : Nat) && q.2.category == 2)) = L') (K : Ec G d b M (pc + 1) L' st ws Z) : Ec G d b M pc L (.int x :: st) ws Z := by
  intro p e R s m args below meth c H locs cells slots lsA C r hP hD hS hL
  exact lv_istore_n C.2.1 C.2.2.1 hd rfl hL hn hl (fun lsB hB => K p e R s m args below meth c H locs cells slots lsB C r hP hD hS hB)
theorem kc_iinc {i k : Nat} {n : Int} {x v : Int32} {L' : List (Nat × Value)} (hd : decode M.2.1 pc = .ok (.iinc i n, 3)) (hk : L[k]? = some (i, Value.int x)) (hv : x + Int32.ofInt n = v) (hn : i < M.2.2.1) (hl : (i, Value.int v) :: L.filter (fun q => !(q.1 == i) && !(q.1 + 1 == i && q.2.category == 2)) = L') (K : Ec G d b M (pc + 3) L' st ws Z) : Ec G d b M pc L st ws Z := by
  intro p e R s m args below meth c H locs cells slots lsA C r hP hD hS hL
  exact lv_iinc C.2.1 C.2.2.1 hd hL hk hv hn hl (fun lsB hB => K p e R s m args below meth c H locs cells slots lsB C r hP hD hS hB)
/-- the object's own constructor: nothing -/
theorem kc_obj {x idx : Nat} (hl : Cond.methodLink M.1.cls idx Lib.objectInit ∈ gd_) (h2 : Cond.instanceMethod Lib.objectInit ∈ gd_) (h3 : Cond.code Lib.objectInit ⟨#[0xb1]⟩ 1 none ∈ gd_) (hd : decode M.2.1 pc = .ok (.invokespecial idx, 3)) (hm : sm_ st = true) (K : Ec G d b M (pc + 3) L st ws Z) : Ec G d b M pc L (.ref x :: st) ws Z := by
  intro p e R s m args below meth c H locs cells slots lsA C r hP hD hS hL
  have hts := C.2.2.2.2.2.2.1
  have hm : (st.map fun v => v.category).sum ≤ 8 := of_decide_eq_true hm
  refine W.objInit C.2.1 C.2.2.1 C.2.2.2.2.2.1 (hts _ hl) (hts _ h2) (hts _ h3) rfl (by rw [C.2.2.2.1]; exact hL.1) rfl hd (by have := r.1; omega) ?_ (K p e R s m args below meth c H locs cells slots lsA C r hP hD hS hL)
  have := r.2.1
  simp only [JFrame.monitorRoom]
  simp
  omega
theorem kc_ret {post : va_W → Prop} (hd : decode M.2.1 pc = .ok (.return_, 1)) (hr : M.2.2.2.1 = none) (hp : post ws) : Ec G d b M pc L [] ws (zc_ G post) := by
  intro p e R s m args below meth c H locs cells slots lsA C r hP hD hS hL
  refine W.widen (k := R.cells) (n := R.slots) (by have := r.2.2.1; omega) (by have := r.2.2.2; omega) ?_
  exact W.vret C.2.1 C.2.2.1 (C.2.2.2.2.1.trans hr) (fun t ht hW => ⟨⟨rfl, ws, hp, by rw [ht]; exact hP, hD⟩, hS.F ht⟩) hS.2.2 hd C.2.2.2.2.2.2.2.1.1
end
/-! the world with the object in the middle -/
theorem mid_at {α : Type} {pre r : List α} {x : α} : (pre ++ x :: r)[pre.length]? = some x := by simp
theorem mid_set {α : Type} {pre r : List α} {x y : α} : (pre ++ x :: r).set pre.length y = pre ++ y :: r := by simp
theorem mid_in {α : Type} {pre r : List α} {x : α} {j : Nat} : (pre ++ x :: r)[pre.length + 1 + j]? = r[j]? := by
  rw [List.getElem?_append_right (by omega), show pre.length + 1 + j - pre.length = j + 1 by omega, List.getElem?_cons_succ]
theorem mid_ins {α : Type} {pre r : List α} {x y : α} {j : Nat} : (pre ++ x :: r).set (pre.length + 1 + j) y = pre ++ x :: r.set j y := by
  rw [List.set_append_right _ _ (by omega), show pre.length + 1 + j - pre.length = j + 1 by omega, List.set_cons_succ]
theorem mid_app {α : Type} {pre r : List α} {x y : α} : (pre ++ x :: r) ++ [y] = pre ++ x :: (r ++ [y]) := by simp
