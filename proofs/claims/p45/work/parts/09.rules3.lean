/-! contracts -/
abbrev OT : Type := Option Value ⊕ String
def qc_ (G : GX) (o : OT) (w' : WS) : Array Value → State → Outcome → State → Prop := fun _ st oc t =>
  (∃ r, o = .inl r ∧ oc = .returned (r.map (cv_ G)) ∧ (va_P (gD G) vwCl (wl_ G w') t.heap ∧ va_D (fr_ G) (wl_ G w'))) ∧ va_F (fr_ G) st t
def xc_ (G : GX) (o : OT) (w' : WS) : String → State → State → Prop := fun E st t => o = .inr E ∧ (va_P (gD G) vwCl (wl_ G w') t.heap ∧ va_D (fr_ G) (wl_ G w')) ∧ va_F (fr_ G) st t
def zu_ (G : GX) (o : OT) (w' : WS) : ZT := fun R below args s => vx_MQ below (qc_ G o w') (xc_ G o w') args s R.cells R.slots (fr_ G)
def ro_ (d b : Nat) : Room := { frames := d + 8, cells := b, slots := 16 * b, locals := 64 * d + 300 }
def pc_ (G : GX) (args : List Value) (w : WS) : Array Value → State → Prop := va_Pc (args.map (cv_ G)) (fun U => (va_P (gD G) vwCl (wl_ G w) U.heap ∧ va_D (fr_ G) (wl_ G w)) ∧ bs_ G U U.heap)
def Big (G : GX) (d b : Nat) (M : MT) (args : List Value) (w : WS) (o : OT) (w' : WS) : Prop :=
  ok_G G → vx_Met (gL G) M.1 (ws_ M) (ro_ d b) (pc_ G args w) (qc_ G o w') (xc_ G o w') b (16 * b) (fr_ G)
/-- the locals at the start, n places -/
def en_ : Nat → List Value → List (Option Value)
  | n, [] => List.replicate n none
  | n, v :: r => if v.category = 2 then some v :: none :: en_ (n - 2) r else some v :: en_ (n - 1) r
theorem lvargs_cv (G : GX) (l : List Value) (k : Nat) : lv_args k (l.map (cv_ G)) = (lv_args k l).map (fun q => (q.1, cv_ G q.2)) := by
  induction l generalizing k with
  | nil => rfl
  | cons v r ih =>
    simp only [List.map_cons, lv_args]
    rw [ih]
    cases v <;> rfl
theorem en_mem {n i k : Nat} {l : List Value} {v : Value} (h : (en_ n l)[i]? = some (some v)) : (k + i, v) ∈ lv_args k l := by
  induction l generalizing n i k with
  | nil =>
    simp only [en_, List.getElem?_replicate] at h
    split at h <;> cases h
  | cons a r ih =>
    unfold en_ at h
    simp only [lv_args]
    split at h
    · rename_i hc
      match i, h with
      | 0, h => simp at h; subst h; simp
      | 1, h => simp at h
      | i + 2, h =>
        simp at h
        have := ih (k := k + 2) h
        refine List.mem_cons_of_mem _ ?_
        rw [hc]
        rw [show k + (i + 2) = k + 2 + i by omega]
        exact this
    · rename_i hc
      have hc1 : a.category = 1 := (lv_cat a).resolve_right hc
      match i, h with
      | 0, h => simp at h; subst h; simp
      | i + 1, h =>
        simp at h
        have := ih (k := k + 1) h
        refine List.mem_cons_of_mem _ ?_
        rw [hc1]
        rw [show k + (i + 1) = k + 1 + i by omega]
        exact this
theorem table_nil {c : Code} (h : ∀ x ∈ c.exceptionTable.toList, False) : c.exceptionTable.toList = tableOf [] := by
  cases hx : c.exceptionTable.toList with
  | nil => rfl
  | cons a r => exact (h a (by rw [hx]; exact List.mem_cons_self)).elim
/-- a contract out of a walk of the body -/
theorem big_of {G : GX} {d b : Nat} {M : MT} {args : List Value} {w w' : WS} {o : OT} (hy : plainName M.1.cls = true) (hn : (lg_sl (args.map (cv_ G))).length ≤ M.2.2.1)
    (K : Ev G d b M 0 (en_ M.2.2.1 args) [] w (zu_ G o w')) : Big G d b M args w o w' := by
  intro hG
  have fin : ∀ (p : Program) (e : Env) (s : State) (m : MethodId) (as : Array Value) (below : List Frame) (meth : Method) (c : Code) (s₁ : State), BodyLoose p (gL G) M.1 (headSpec (ws_ M) (ro_ d b)) M.2.1 M.2.2.1 M.2.2.2.1 e s m as below meth c s₁ → c.maxLocals = M.2.2.1 → c.exceptionTable.toList = tableOf M.2.2.2.2 → pc_ G args w as s →
      W p (gL G) e (headSpec (ws_ M) (ro_ d b)).room s m as below meth c s.heap [] 0 0 (vx_MQ below (qc_ G o w') (xc_ G o w') as s b (16 * b) (fr_ G)) (entryFrame m as M.2.2.1) := by
    intro p e s m as below meth c s₁ B hml hx hv
    obtain ⟨rfl, hP, hB⟩ := hv
    have hts := atoms_spec (ws := ws_ M) B.pre
    have hl := lv_entry (args.map (cv_ G)) (n := M.2.2.1) hn
    rw [lg_entry_eq]
    generalize (lg_sl (args.map (cv_ G)) ++ List.replicate (M.2.2.1 - (lg_sl (args.map (cv_ G))).length) Slot.unset).toArray = lsA at hl ⊢
    refine K p e (ro_ d b) s m _ below meth c s.heap [] 0 0 lsA ⟨hG, B.exec, B.bytes, hml, B.returns, findClass_of_methodNamed B.named, fun w h => hts w (List.mem_cons_of_mem _ h), ⟨B.notSynchronized, (name_of_methodNamed B.named B.method).1⟩, hx, hB⟩ ⟨Nat.le_refl _, Nat.le_refl _, by simp [ro_], by simp [ro_]⟩ hP.1 hP.2 va_S.rf ⟨hl.1, hl.2.1, fun q hq => ?_⟩
    obtain ⟨i, v, h1, h2⟩ := pr_mem.mp hq
    refine hl.2.2 q ?_
    rw [lvargs_cv, h2]
    exact List.mem_map.mpr ⟨(0 + i, v), en_mem h1, rfl⟩
  by_cases hh : M.2.2.2.2 = []
  · refine vx_ofW (cc := M.2.1) (maxL := M.2.2.1) (ret := M.2.2.2.1) (ws' := gd_) hy (by unfold ws_ cw_; rw [if_pos hh]) ?_
    intro p e s m as below meth c s₁ B hml hx hv
    exact fin p e s m as below meth c s₁ B hml (by rw [hh]; exact table_nil hx) hv
  · refine vx_ofWH (cc := M.2.1) (maxL := M.2.2.1) (ret := M.2.2.2.1) (hh := M.2.2.2.2) (ws' := gd_) hy (by unfold ws_ cw_; rw [if_neg hh]) ?_
    intro p e s m as below meth c s₁ B hml hv
    refine fin p e s m as below meth c s₁ B hml (vx_table (x := M.1) (y := M.1) B (bytes := M.2.1) (maxL' := M.2.2.1) (ret' := M.2.2.2.1) ?_) hv
    have h1 := atoms_spec (ws := ws_ M) B.pre _ List.mem_cons_self
    unfold cw_ at h1
    rw [if_neg hh] at h1
    exact h1
/-! ends -/
theorem ev_iret {G : GX} {d b : Nat} {M : MT} {pc : Nat} {ls : List (Option Value)} {w w' : WS} {v : Int32} {o : OT} {ty : FieldType} (hd : decode M.2.1 pc = .ok (.ireturn, 1)) (hr : M.2.2.2.1 = some ty) (hn : narrow ty (.int v) = .int v) (ho : o = .inl (some (.int v))) (hw : w' = w) : Ev G d b M pc ls [.int v] w (zu_ G o w') := by
  intro p e R s m args below meth c H locs cells slots lsA C r hP hD hS hL
  subst ho hw
  refine W.widen (k := R.cells) (n := R.slots) (by have := r.2.2.1; omega) (by have := r.2.2.2; omega) (vx_ret ?_)
  exact W.zret C.2.1 C.2.2.1 (C.2.2.2.2.1.trans hr) hn (fun t ht hW => ⟨⟨_, rfl, rfl, by rw [ht]; exact ⟨hP, hD⟩⟩, hS.F ht⟩) hS.2.2 hd C.2.2.2.2.2.2.2.1.1
theorem ev_vret {G : GX} {d b : Nat} {M : MT} {pc : Nat} {ls : List (Option Value)} {w w' : WS} {o : OT} (hd : decode M.2.1 pc = .ok (.return_, 1)) (hr : M.2.2.2.1 = none) (ho : o = .inl none) (hw : w' = w) : Ev G d b M pc ls [] w (zu_ G o w') := by
  intro p e R s m args below meth c H locs cells slots lsA C r hP hD hS hL
  subst ho hw
  refine W.widen (k := R.cells) (n := R.slots) (by have := r.2.2.1; omega) (by have := r.2.2.2; omega) (vx_ret ?_)
  exact W.vret C.2.1 C.2.2.1 (C.2.2.2.2.1.trans hr) (fun t ht hW => ⟨⟨_, rfl, rfl, by rw [ht]; exact ⟨hP, hD⟩⟩, hS.F ht⟩) hS.2.2 hd C.2.2.2.2.2.2.2.1.1
theorem ev_aret {G : GX} {d b : Nat} {M : MT} {pc : Nat} {ls : List (Option Value)} {w w' : WS} {v : Nat} {o : OT} {n : String} (hd : decode M.2.1 pc = .ok (.areturn, 1)) (hr : M.2.2.2.1 = some (.object n)) (ho : o = .inl (some (.ref v))) (hw : w' = w) : Ev G d b M pc ls [.ref v] w (zu_ G o w') := by
  intro p e R s m args below meth c H locs cells slots lsA C r hP hD hS hL
  subst ho hw
  refine W.widen (k := R.cells) (n := R.slots) (by have := r.2.2.1; omega) (by have := r.2.2.2; omega) (vx_ret ?_)
  exact W.aret C.2.1 C.2.2.1 (C.2.2.2.2.1.trans hr) (Or.inl ⟨_, rfl⟩) (Or.inr ⟨_, rfl⟩) (fun t ht hW => ⟨⟨_, rfl, rfl, by rw [ht]; exact ⟨hP, hD⟩⟩, hS.F ht⟩) hS.2.2 hd C.2.2.2.2.2.2.2.1.1
theorem ev_dret {G : GX} {d b : Nat} {M : MT} {pc : Nat} {ls : List (Option Value)} {w w' : WS} {v : UInt64} {o : OT} (hd : decode M.2.1 pc = .ok (.dreturn, 1)) (hr : M.2.2.2.1 = some .double) (ho : o = .inl (some (.double v))) (hw : w' = w) : Ev G d b M pc ls [.double v] w (zu_ G o w') := by
  intro p e R s m args below meth c H locs cells slots lsA C r hP hD hS hL
  subst ho hw
  refine W.widen (k := R.cells) (n := R.slots) (by have := r.2.2.1; omega) (by have := r.2.2.2; omega) (vx_ret ?_)
  exact W.dret C.2.1 C.2.2.1 (C.2.2.2.2.1.trans hr) (fun t ht hW => ⟨⟨_, rfl, rfl, by rw [ht]; exact ⟨hP, hD⟩⟩, hS.F ht⟩) hS.2.2 hd C.2.2.2.2.2.2.2.1.1
theorem ev_fret {G : GX} {d b : Nat} {M : MT} {pc : Nat} {ls : List (Option Value)} {w w' : WS} {v : UInt32} {o : OT} (hd : decode M.2.1 pc = .ok (.freturn, 1)) (hr : M.2.2.2.1 = some .float) (ho : o = .inl (some (.float v))) (hw : w' = w) : Ev G d b M pc ls [.float v] w (zu_ G o w') := by
  intro p e R s m args below meth c H locs cells slots lsA C r hP hD hS hL
  subst ho hw
  refine W.widen (k := R.cells) (n := R.slots) (by have := r.2.2.1; omega) (by have := r.2.2.2; omega) (vx_ret ?_)
  exact W.fret C.2.1 C.2.2.1 (C.2.2.2.2.1.trans hr) (fun t ht hW => ⟨⟨_, rfl, rfl, by rw [ht]; exact ⟨hP, hD⟩⟩, hS.F ht⟩) hS.2.2 hd C.2.2.2.2.2.2.2.1.1
/-! calls -/
theorem bs_moved {G : GX} {s U : State} {H : Heap} {locs : List Loc} (hB : bs_ G s s.heap) (hW : s.WarmedH U.vm) (hS : va_S (fr_ G) s.heap H locs) (hU : U.heap = H) (hG : ok_G G) : bs_ G U U.heap := by
  obtain ⟨h1, h2, h3, h4, h5, h6, h7, h8, h9, h10, h11⟩ := hB
  have hq : ∀ a : Nat, a < s.heap.size → ¬ fr_ G a → H[a]? = s.heap[a]? := hS.2.1
  have hal := hW.alike
  subst hU
  refine ⟨va_K.moved hal h1, ⟨va_X.moved hal (h2.1.kept (hq _ ?_ ?_)), Nat.le_trans h2.2 hS.1⟩, vx_Zq.moved hal (h3.kept hq), vx_Zq.moved hal (h4.kept hq), vS_.moved hal (h5.kept hq), ⟨⟨h6.1.1.kept hq |>.moved hal, h6.1.2.1.kept hq |>.moved hal, va_Z.moved hal (h6.1.2.2.kept hq)⟩, by obtain ⟨x, hx, hz⟩ := h6.2; exact ⟨x, hx, va_Z.moved hal (hz.kept hq)⟩⟩, fun own k tx h => ?_, fun i k tx h => (h8 i k tx h).warm hW, fun q h => (h9 q h).moved hal, fun own k y hh h => (h10 own k y hh h).warmM hW, fun w h hn => nw_warm hn hW (h11 w h hn)⟩
  · obtain ⟨scr, hh, -⟩ := h2.1
    exact (Array.getElem?_eq_some_iff.mp hh).1
  · exact fun h => absurd hG.2.2.2.1 (Nat.not_lt.mpr h)
  · obtain ⟨a, ha⟩ := h7 own k tx h
    exact ⟨a, ha.warm hW⟩
theorem pc_blind {G : GX} {args : List Value} {w : WS} : FrameBlind (pc_ G args w) := fun a U g mk h => ⟨h.1, h.2.1, by
  obtain ⟨h1, h2, h3, h4, h5, h6, h7, h8, h9, h10, h11⟩ := h.2.2
  have hal : U.vm.Alike (U.calling g mk a).vm := Vm.Alike.refl U.vm
  refine ⟨va_K.moved hal h1, ⟨va_X.moved hal h2.1, h2.2⟩, vx_Zq.moved hal h3, vx_Zq.moved hal h4, vS_.moved hal h5, ⟨⟨h6.1.1.moved hal, h6.1.2.1.moved hal, va_Z.moved hal h6.1.2.2⟩, by obtain ⟨x, hx, hz⟩ := h6.2; exact ⟨x, hx, va_Z.moved hal hz⟩⟩, fun own k tx hh => ?_, fun i k tx hh => (h8 i k tx hh).same rfl, fun q hh => (h9 q hh).moved hal, fun own k y hh h9 => va_Nw.same rfl rfl (h10 own k y hh h9), fun w h9 hn => va_tabs (nw_tab hn) (rfl : U.vm = (U.calling g mk a).vm) (h11 w h9 hn)⟩
  obtain ⟨a9, h9⟩ := h7 own k tx hh
  exact ⟨a9, h9.same rfl⟩⟩
theorem pc_at {G : GX} {args : List Value} {w : WS} {s : State} {H : Heap} {locs : List Loc} (hG : ok_G G) (hB : bs_ G s s.heap) (hP : va_P (gD G) vwCl (wl_ G w) H) (hD : va_D (fr_ G) (wl_ G w)) (hS : va_S (fr_ G) s.heap H locs) : ∀ U : State, U.heap = H → s.WarmedH U.vm → pc_ G args w (args.map (cv_ G)).toArray U :=
  fun U hU hW => ⟨rfl, ⟨by rw [hU]; exact hP, hD⟩, bs_moved hB hW hS hU hG⟩
theorem met_of {l : Launch} {y : MethodName} {ws : List Cond} {rm : Room} {Pc : Array Value → State → Prop} {G : GX} {r : Option Value} {w' : WS} {mc ms : Nat} (h : vx_Met l y ws rm Pc (qc_ G (.inl r) w') (xc_ G (.inl r) w') mc ms (fr_ G)) : Met l y ws rm Pc (qc_ G (.inl r) w') mc ms (fr_ G) := by
  intro p e h1 h2 h3 s m args below h4 h5 h6 h7
  obtain ⟨n, o, a1, a2, a3, a4⟩ := h p e h1 h2 h3 s m args below h4 h5 h6 h7
  refine ⟨n, o, a1, a2, a3, ?_⟩
  rcases a4 with a4 | ⟨q, -, E, ce, L, hx, -⟩
  · exact a4
  · cases hx.1
/-- what a call goes on with -/
theorem ev_back {G : GX} {p : Program} {e : Env} {R : Room} {s : State} {m : MethodId} {args : Array Value} {below : List Frame} {meth : Method} {c : Code} {H : Heap} {locs : List Loc} {cells slots mc ms pc : Nat} {lsA : Array Slot} {st0 rest as : List Value} {Q : State → Prop} {r : Option Value} {w' : WS}
    (hr : va_Run p (gL G) e R s m args below meth c H locs cells slots mc ms (F0 m pc lsA st0) rest (qc_ G (.inl r) w' as.toArray) (fr_ G)) (hS : va_S (fr_ G) s.heap H locs)
    (kk : ∀ (H1 : Heap) (locs1 : List Loc), va_P (gD G) vwCl (wl_ G w') H1 → va_D (fr_ G) (wl_ G w') → va_S (fr_ G) s.heap H1 locs1 → W p (gL G) e R s m args below meth c H1 locs1 (cells + mc) (slots + ms) Q (F0 m (pc + 3) lsA ((r.map (cv_ G)).toList ++ rest))) : W p (gL G) e R s m args below meth c H locs cells slots Q (F0 m pc lsA st0) := by
  intro T hT X
  obtain ⟨v, st₀, t, T', L, h0, X', hL, e1, e2, ⟨⟨r', hr', hv, hp⟩, hz, hk⟩, st⟩ := hr T hT X
  cases hr'
  cases hv
  rw [h0] at hz hk
  obtain ⟨t2, a1, b1⟩ := kk T'.heap (locs ++ L) (by rw [e1]; exact hp.1) hp.2
    ⟨Nat.le_trans hS.1 (by rw [e1]; exact hz), fun q h1 h2 => by rw [e1, hk q (Nat.lt_of_lt_of_le h1 hS.1) h2]; exact hS.2.1 q h1 h2, fun q hq => by
      rcases List.mem_append.mp hq with h | h
      · exact hS.2.2 q h
      · exact hL q h⟩ T' rfl X'
  exact ⟨t2, st t2 a1, b1⟩
/-- a static method of one's own class -/
def sl_ (own : String) (idx : Nat) (M : MT) (n : Nat) : Prop := cw_ M ∈ gd_ ∧ cw_ M = .code M.1 M.2.1 M.2.2.1 M.2.2.2.1 ∧ Cond.methodLink own idx M.1 ∈ gd_ ∧ Cond.static M.1 ∈ gd_ ∧ Cond.initialized M.1.cls ∈ gd_ ∧ M.1.cls ≠ "java/lang/invoke/MethodHandle" ∧ M.1.cls ≠ "java/lang/invoke/VarHandle" ∧ (parseMethodDescriptor M.1.desc).map (fun d => d.parameters.length) = some n ∧ M.2.2.1 ≤ 40
/-- a private static method of a nest mate -/
def nl_ (own : String) (idx : Nat) (M : MT) (n : Nat) : Prop := cw_ M ∈ gd_ ∧ cw_ M = .code M.1 M.2.1 M.2.2.1 M.2.2.2.1 ∧ Cond.methodLinkNest own idx M.1 "MapScales" ∈ tables_1 ∧ Cond.static M.1 ∈ gd_ ∧ Cond.initialized M.1.cls ∈ gd_ ∧ M.1.cls ≠ "java/lang/invoke/MethodHandle" ∧ M.1.cls ≠ "java/lang/invoke/VarHandle" ∧ (parseMethodDescriptor M.1.desc).map (fun d => d.parameters.length) = some n ∧ M.2.2.1 ≤ 40
/-- a method of an object -/
def vl_ (own : String) (idx : Nat) (M : MT) (n : Nat) : Prop := cw_ M ∈ gd_ ∧ cw_ M = .code M.1 M.2.1 M.2.2.1 M.2.2.2.1 ∧ Cond.methodLink own idx M.1 ∈ gd_ ∧ (Cond.instanceMethod M.1 ∈ gd_ ∧ Cond.selects M.1.cls M.1 M.1 ∈ gd_) ∧ Cond.initialized M.1.cls ∈ gd_ ∧ M.1.cls ≠ "java/lang/invoke/MethodHandle" ∧ M.1.cls ≠ "java/lang/invoke/VarHandle" ∧ (parseMethodDescriptor M.1.desc).map (fun d => d.parameters.length) = some n ∧ M.2.2.1 ≤ 40
theorem fo_ok {d d' n : Nat} (h : d + 8 ≤ n) (hlt : d' < d) : d' + 8 + 1 ≤ n := by omega
set_option maxRecDepth 20000 in
theorem lo_ok {d d' m n : Nat} (h : 64 * d + 300 ≤ n) (hlt : d' < d) (hm : m ≤ 40) : 8 + (m + 11) + (64 * d' + 300) ≤ n := by omega
theorem cb_ {G : GX} {d b d' b' idx n : Nat} {M M' : MT} {p : Program} {R : Room} {s : State} {m : MethodId} {args : Array Value} {meth : Method} {c : Code} {cells slots : Nat} (C : cx_ G M p s m args meth c) (r : rm_ d b R cells slots) (hlt : d' < d)
    (h1 : cw_ M' ∈ gd_) (h2 : cw_ M' = .code M'.1 M'.2.1 M'.2.2.1 M'.2.2.2.1) (h3 : (Cond.methodLink M.1.cls idx M'.1).before args s = true) (h5 : Cond.initialized M'.1.cls ∈ gd_) (h6 : M'.1.cls ≠ "java/lang/invoke/MethodHandle") (h7 : M'.1.cls ≠ "java/lang/invoke/VarHandle")
    (h8 : (parseMethodDescriptor M'.1.desc).map (fun d => d.parameters.length) = some n) (h9 : M'.2.2.1 ≤ 40) : CallB R s args M.1.cls idx M'.1 M'.2.1 M'.2.2.1 M'.2.2.2.1 (ws_ M') (ro_ d' b') b' (16 * b') n := by
  refine callB_of (ws' := gd_) n C.2.2.2.2.2.2.1 (gd_in h1) (by unfold ws_; rw [h2]) rfl rfl (C.2.2.2.2.2.2.1 _ h5) h3 ⟨h6, h7, h8⟩ ⟨fo_ok r.1 hlt, lo_ok r.2.1 hlt h9⟩
def ra_ : List Value → List Value → List Value
  | [], l => l
  | v :: a, l => ra_ a (v :: l)
theorem ra_eq (a l : List Value) : ra_ a l = a.reverse ++ l := by
  induction a generalizing l with
  | nil => rfl
  | cons v a ih => rw [ra_, ih]; simp
theorem ra_map (G : GX) (a l : List Value) : (ra_ a l).map (cv_ G) = (a.map (cv_ G)).reverse ++ l.map (cv_ G) := by
  rw [ra_eq]; simp
def ps_ : Option Value → List Value → List Value
  | none, l => l
  | some v, l => v :: l
theorem ps_map (G : GX) (r : Option Value) (l : List Value) : (ps_ r l).map (cv_ G) = (r.map (cv_ G)).toList ++ l.map (cv_ G) := by
  cases r <;> rfl
def sm_ (l : List Value) : Bool := decide ((l.map fun v => v.category).sum ≤ 8)
theorem rm_after {d b b' : Nat} {R : Room} {cells slots : Nat} (r : rm_ d b R cells slots) (hb : b' ≤ b) : rm_ d (b - b') R (cells + b') (slots + 16 * b') := by
  obtain ⟨r1, r2, r3, r4⟩ := r
  exact ⟨r1, r2, by omega, by omega⟩
theorem rm_fit {d b b' : Nat} {R : Room} {cells slots : Nat} (r : rm_ d b R cells slots) (hb : b' ≤ b) : cells + b' ≤ R.cells ∧ slots + 16 * b' ≤ R.slots := by
  obtain ⟨r1, r2, r3, r4⟩ := r
  exact ⟨by omega, by omega⟩
theorem ev_callS {G : GX} {d b d' b' : Nat} {M M' : MT} {pc idx n : Nat} {ls : List (Option Value)} {as rest : List Value} {w w' : WS} {Z : ZT} {r0 : Option Value} (hl : sl_ M.1.cls idx M' n) (hc : Big G d' b' M' as w (.inl r0) w') (hd : decode M.2.1 pc = .ok (.invokestatic idx, 3)) (hn : as.length = n) (hlt : d' < d) (hb : b' ≤ b) (hm : sm_ rest = true)
    (K : Ev G d (b - b') M (pc + 3) ls (ps_ r0 rest) w' Z) : Ev G d b M pc ls (ra_ as rest) w Z := by
  intro p e R s m args below meth c H locs cells slots lsA C r hP hD hS hL
  obtain ⟨h1, h2, h3, h4, h5, h6, h7, h8, h9⟩ := hl
  have hts := C.2.2.2.2.2.2.1
  refine ev_back (va_runS (As := as.map (cv_ G)) (rest := rest.map (cv_ G)) ⟨C.2.1, C.2.2.1, C.2.2.2.1, C.2.2.2.2.2.1, hts⟩ (met_of (hc C.1)) ⟨cb_ C r hlt h1 h2 (hts _ h3) h5 h6 h7 h8 h9, hts _ h4⟩ ⟨pc_blind, pc_at C.1 C.2.2.2.2.2.2.2.2.2 hP hD hS⟩ rfl (by rw [List.length_map]; exact hn) hL.1 (ra_map G as rest) ?_ hd (rm_fit r hb)) hS (fun H1 locs1 hP1 hD1 hS1 => ?_)
  · rw [cv_sum]
    simpa [sm_, JFrame.monitorRoom] using hm
  · rw [← ps_map]
    exact K p e R s m args below meth c H1 locs1 _ _ lsA C (rm_after r hb) hP1 hD1 hS1 hL
theorem ev_callN {G : GX} {d b d' b' : Nat} {M M' : MT} {pc idx n : Nat} {ls : List (Option Value)} {as rest : List Value} {w w' : WS} {Z : ZT} {r0 : Option Value} (hl : nl_ M.1.cls idx M' n) (hc : Big G d' b' M' as w (.inl r0) w') (hd : decode M.2.1 pc = .ok (.invokestatic idx, 3)) (hn : as.length = n) (hlt : d' < d) (hb : b' ≤ b) (hm : sm_ rest = true)
    (K : Ev G d (b - b') M (pc + 3) ls (ps_ r0 rest) w' Z) : Ev G d b M pc ls (ra_ as rest) w Z := by
  intro p e R s m args below meth c H locs cells slots lsA C r hP hD hS hL
  obtain ⟨h1, h2, h3, h4, h5, h6, h7, h8, h9⟩ := hl
  have hts := C.2.2.2.2.2.2.1
  have hnl := C.2.2.2.2.2.2.2.2.2.2.2.2.2.2.2.2.2.2.1 _ _ _ _ h3
  refine ev_back (va_runSN (As := as.map (cv_ G)) (rest := rest.map (cv_ G)) ⟨C.2.1, C.2.2.1, C.2.2.2.1, C.2.2.2.2.2.1, hts⟩ (met_of (hc C.1)) ⟨va_cnB (ws' := gd_) n hts (gd_in h1) (by unfold ws_; rw [h2]) rfl rfl hnl (hts _ h5) ⟨h6, h7, h8⟩ ⟨fo_ok r.1 hlt, lo_ok r.2.1 hlt h9⟩, hts _ h4, trivial⟩ ⟨pc_blind, pc_at C.1 C.2.2.2.2.2.2.2.2.2 hP hD hS⟩ rfl (by rw [List.length_map]; exact hn) hL.1 (ra_map G as rest) ?_ hd (rm_fit r hb)) hS (fun H1 locs1 hP1 hD1 hS1 => ?_)
  · rw [cv_sum]
    simpa [sm_, JFrame.monitorRoom] using hm
  · rw [← ps_map]
    exact K p e R s m args below meth c H1 locs1 _ _ lsA C (rm_after r hb) hP1 hD1 hS1 hL
/-- the class of a cell -/
def co_ (k : Nat) (C : String) : Prop := k < 115 ∧ ∃ ci fs q, shp k = .inl (ci, fs) ∧ vwCl[ci]? = some q ∧ q.1 = C
theorem co_recv {G : GX} {w : WS} {k : Nat} {C : String} {s : State} {H : Heap} (h : co_ k C) (hK : va_K (gD G) vwCl (tys_ G) s) (hP : va_P (gD G) vwCl (wl_ G w) H) : ∃ cell : Cell, H[gA G k]? = some cell ∧ cell.vm.isStatics = false ∧ s.vm.findClass C = some cell.cls := by
  obtain ⟨h1, ci, fs, q, h2, h3, rfl⟩ := h
  exact va_recv hK hP h3 (q0 := k) (by rw [wl_get G w h1, ce_obj h2])
theorem ev_callV {G : GX} {d b d' b' : Nat} {M M' : MT} {pc idx n k : Nat} {ls : List (Option Value)} {as rest : List Value} {w w' : WS} {Z : ZT} {r0 : Option Value} (hl : vl_ M.1.cls idx M' n) (hk : co_ k M'.1.cls) (hc : Big G d' b' M' (.ref k :: as) w (.inl r0) w') (hd : decode M.2.1 pc = .ok (.invokevirtual idx, 3)) (hn : as.length = n) (hlt : d' < d) (hb : b' ≤ b) (hm : sm_ rest = true)
    (K : Ev G d (b - b') M (pc + 3) ls (ps_ r0 rest) w' Z) : Ev G d b M pc ls (ra_ as (.ref k :: rest)) w Z := by
  intro p e R s m args below meth c H locs cells slots lsA C r hP hD hS hL
  obtain ⟨h1, h2, h3, h4, h5, h6, h7, h8, h9⟩ := hl
  have hts := C.2.2.2.2.2.2.1
  refine ev_back (va_runV (As := as.map (cv_ G)) (rest := rest.map (cv_ G)) ⟨C.2.1, C.2.2.1, C.2.2.2.1, C.2.2.2.2.2.1, hts⟩ (met_of (hc C.1)) ⟨cb_ C r hlt h1 h2 (hts _ h3) h5 h6 h7 h8 h9, hts _ h4.1, hts _ h4.2⟩ ⟨pc_blind, co_recv hk (bs_K C.2.2.2.2.2.2.2.2.2) hP, pc_at (args := .ref k :: as) C.1 C.2.2.2.2.2.2.2.2.2 hP hD hS⟩ rfl (by rw [List.length_map]; exact hn) hL.1 (ra_map G as (.ref k :: rest)) ?_ hd (rm_fit r hb)) hS (fun H1 locs1 hP1 hD1 hS1 => ?_)
  · rw [cv_sum]
    simpa [sm_, JFrame.monitorRoom] using hm
  · rw [← ps_map]
    exact K p e R s m args below meth c H1 locs1 _ _ lsA C (rm_after r hb) hP1 hD1 hS1 hL
