/-! the judgement: from here the method goes on, from any heap that holds the world w, to Z -/
abbrev ZT : Type := Room → List Frame → Array Value → State → State → Prop
def cx_ (G : GX) (M : MT) (p : Program) (s : State) (m : MethodId) (args : Array Value) (meth : Method) (c : Code) : Prop :=
  ok_G G ∧ p.tables.exec = Jvm.exec ∧ c.code = M.2.1 ∧ c.maxLocals = M.2.2.1 ∧ meth.sig.returnType = M.2.2.2.1 ∧ s.vm.findClass M.1.cls = some m.cls ∧ (∀ w ∈ gd_, w.before args s = true) ∧ (meth.locks = false ∧ meth.name = M.1.name) ∧ c.exceptionTable.toList = tableOf M.2.2.2.2 ∧ bs_ G s s.heap
def rm_ (d b : Nat) (R : Room) (cells slots : Nat) : Prop := d + 8 ≤ R.frames ∧ 64 * d + 300 ≤ R.locals ∧ cells + b ≤ R.cells ∧ slots + 16 * b ≤ R.slots
def Ev (G : GX) (d b : Nat) (M : MT) (pc : Nat) (ls : List (Option Value)) (st : List Value) (w : WS) (Z : ZT) : Prop :=
  ∀ (p : Program) (e : Env) (R : Room) (s : State) (m : MethodId) (args : Array Value) (below : List Frame) (meth : Method) (c : Code) (H : Heap) (locs : List Loc) (cells slots : Nat) (lsA : Array Slot),
    cx_ G M p s m args meth c → rm_ d b R cells slots → va_P (gD G) vwCl (wl_ G w) H → va_D (fr_ G) (wl_ G w) → va_S (fr_ G) s.heap H locs → ls_ G M.2.2.1 lsA ls →
    W p (gL G) e R s m args below meth c H locs cells slots (Z R below args s) (F0 m pc lsA (st.map (cv_ G)))
theorem ev_iload_n {G : GX} {d b : Nat} {M : MT} {pc : Nat} {ls : List (Option Value)} {st : List Value} {w : WS} {Z : ZT} {k : Fin 4} {x : Int32} (hd : decode M.2.1 pc = .ok (.iload_n k, 1)) (hl : ls[(k : Nat)]? = some (some (.int x)))
    (K : Ev G d b M (pc + 1) ls (.int x :: st) w Z) : Ev G d b M pc ls st w Z := by
  intro p e R s m args below meth c H locs cells slots lsA C r hP hD hS hL
  exact lv_iload_n C.2.1 C.2.2.1 hd rfl (ls_at hL hl) (K p e R s m args below meth c H locs cells slots lsA C r hP hD hS hL)
theorem ev_iload {G : GX} {d b : Nat} {M : MT} {pc : Nat} {ls : List (Option Value)} {st : List Value} {w : WS} {Z : ZT} {i : Nat} {x : Int32} (hd : decode M.2.1 pc = .ok (.iload i, 2)) (hl : ls[i]? = some (some (.int x)))
    (K : Ev G d b M (pc + 2) ls (.int x :: st) w Z) : Ev G d b M pc ls st w Z := by
  intro p e R s m args below meth c H locs cells slots lsA C r hP hD hS hL
  exact lv_iload C.2.1 C.2.2.1 hd (ls_at hL hl) (K p e R s m args below meth c H locs cells slots lsA C r hP hD hS hL)
theorem ev_aload_n {G : GX} {d b : Nat} {M : MT} {pc : Nat} {ls : List (Option Value)} {st : List Value} {w : WS} {Z : ZT} {k : Fin 4} {x : Nat} (hd : decode M.2.1 pc = .ok (.aload_n k, 1)) (hl : ls[(k : Nat)]? = some (some (.ref x)))
    (K : Ev G d b M (pc + 1) ls (.ref x :: st) w Z) : Ev G d b M pc ls st w Z := by
  intro p e R s m args below meth c H locs cells slots lsA C r hP hD hS hL
  exact lv_aload_n C.2.1 C.2.2.1 hd rfl (ls_at hL hl) (K p e R s m args below meth c H locs cells slots lsA C r hP hD hS hL)
theorem ev_aload {G : GX} {d b : Nat} {M : MT} {pc : Nat} {ls : List (Option Value)} {st : List Value} {w : WS} {Z : ZT} {i : Nat} {x : Nat} (hd : decode M.2.1 pc = .ok (.aload i, 2)) (hl : ls[i]? = some (some (.ref x)))
    (K : Ev G d b M (pc + 2) ls (.ref x :: st) w Z) : Ev G d b M pc ls st w Z := by
  intro p e R s m args below meth c H locs cells slots lsA C r hP hD hS hL
  exact lv_aload C.2.1 C.2.2.1 hd (ls_at hL hl) (K p e R s m args below meth c H locs cells slots lsA C r hP hD hS hL)
theorem ev_dload {G : GX} {d b : Nat} {M : MT} {pc : Nat} {ls : List (Option Value)} {st : List Value} {w : WS} {Z : ZT} {i : Nat} {x : UInt64} (hd : decode M.2.1 pc = .ok (.dload i, 2)) (hl : ls[i]? = some (some (.double x)))
    (K : Ev G d b M (pc + 2) ls (.double x :: st) w Z) : Ev G d b M pc ls st w Z := by
  intro p e R s m args below meth c H locs cells slots lsA C r hP hD hS hL
  exact lv_dload C.2.1 C.2.2.1 hd (ls_at hL hl) (K p e R s m args below meth c H locs cells slots lsA C r hP hD hS hL)
theorem ev_istore_ng {G : GX} {d b : Nat} {M : MT} {pc : Nat} {ls : List (Option Value)} {st : List Value} {w : WS} {Z : ZT} {k : Fin 4} {x : Int32} (hd : decode M.2.1 pc = .ok (.istore_n k, 1)) (hn : (k : Nat) < M.2.2.1) (hc : c1_ ls k = true)
    (K : Ev G d b M (pc + 1) (ls.set k (some (Value.int x))) st w Z) : Ev G d b M pc ls (Value.int x :: st) w Z := by
  intro p e R s m args below meth c H locs cells slots lsA C r hP hD hS hL
  exact lv_istore_n C.2.1 C.2.2.1 hd rfl hL hn rfl (fun lsB hB => K p e R s m args below meth c H locs cells slots lsB C r hP hD hS (ls_store hB hc (fun v hv => by cases hv; rfl)))
theorem ev_istore_g {G : GX} {d b : Nat} {M : MT} {pc : Nat} {ls : List (Option Value)} {st : List Value} {w : WS} {Z : ZT} {k : Nat} {x : Int32} (hd : decode M.2.1 pc = .ok (.istore k, 2)) (hn : k < M.2.2.1) (hc : c1_ ls k = true)
    (K : Ev G d b M (pc + 2) (ls.set k (some (Value.int x))) st w Z) : Ev G d b M pc ls (Value.int x :: st) w Z := by
  intro p e R s m args below meth c H locs cells slots lsA C r hP hD hS hL
  exact lv_istore C.2.1 C.2.2.1 hd hL hn rfl (fun lsB hB => K p e R s m args below meth c H locs cells slots lsB C r hP hD hS (ls_store hB hc (fun v hv => by cases hv; rfl)))
theorem ev_astore_ng {G : GX} {d b : Nat} {M : MT} {pc : Nat} {ls : List (Option Value)} {st : List Value} {w : WS} {Z : ZT} {k : Fin 4} {x : Nat} (hd : decode M.2.1 pc = .ok (.astore_n k, 1)) (hn : (k : Nat) < M.2.2.1) (hc : c1_ ls k = true)
    (K : Ev G d b M (pc + 1) (ls.set k (some (Value.ref x))) st w Z) : Ev G d b M pc ls (Value.ref x :: st) w Z := by
  intro p e R s m args below meth c H locs cells slots lsA C r hP hD hS hL
  exact lv_astore_n C.2.1 C.2.2.1 hd rfl hL hn rfl (fun lsB hB => K p e R s m args below meth c H locs cells slots lsB C r hP hD hS (ls_store hB hc (fun v hv => by cases hv; rfl)))
theorem ev_astore_g {G : GX} {d b : Nat} {M : MT} {pc : Nat} {ls : List (Option Value)} {st : List Value} {w : WS} {Z : ZT} {k : Nat} {x : Nat} (hd : decode M.2.1 pc = .ok (.astore k, 2)) (hn : k < M.2.2.1) (hc : c1_ ls k = true)
    (K : Ev G d b M (pc + 2) (ls.set k (some (Value.ref x))) st w Z) : Ev G d b M pc ls (Value.ref x :: st) w Z := by
  intro p e R s m args below meth c H locs cells slots lsA C r hP hD hS hL
  exact lv_astore C.2.1 C.2.2.1 hd hL hn rfl (fun lsB hB => K p e R s m args below meth c H locs cells slots lsB C r hP hD hS (ls_store hB hc (fun v hv => by cases hv; rfl)))
theorem ev_iinc_g {G : GX} {d b : Nat} {M : MT} {pc : Nat} {ls : List (Option Value)} {st : List Value} {w : WS} {Z : ZT} {i : Nat} {n : Int} {x v : Int32} (hd : decode M.2.1 pc = .ok (.iinc i n, 3)) (hl : ls[i]? = some (some (.int x))) (hv : x + Int32.ofInt n = v) (hn : i < M.2.2.1) (hc : c1_ ls i = true)
    (K : Ev G d b M (pc + 3) (ls.set i (some (.int v))) st w Z) : Ev G d b M pc ls st w Z := by
  intro p e R s m args below meth c H locs cells slots lsA C r hP hD hS hL
  obtain ⟨k, hk⟩ := List.mem_iff_getElem?.mp (pr_mem (G := G) (k := 0) (q := (i, .int x)) |>.mpr ⟨i, _, hl, by simp [cv_]⟩)
  exact lv_iinc C.2.1 C.2.2.1 hd hL hk hv hn rfl (fun lsB hB => K p e R s m args below meth c H locs cells slots lsB C r hP hD hS (ls_store hB hc (fun v hv => by cases hv; rfl)))
theorem ev_ist0 {G : GX} {d b : Nat} {M : MT} {pc : Nat} {q : List (Option Value)} {a0 : Option Value} {st : List Value} {w : WS} {Z : ZT} {x : Int32} (hd : decode M.2.1 pc = .ok (.istore_n 0, 1)) (hn : 0 < M.2.2.1)
    (K : Ev G d b M (pc + 1) (some (Value.int x) :: q) st w Z) : Ev G d b M pc (a0 :: q) (Value.int x :: st) w Z := ev_istore_ng (k := 0) hd hn rfl K
theorem ev_ist1 {G : GX} {d b : Nat} {M : MT} {pc : Nat} {q : List (Option Value)} {a0 a1 : Option Value} {st : List Value} {w : WS} {Z : ZT} {x : Int32} (hd : decode M.2.1 pc = .ok (.istore_n 1, 1)) (hn : 1 < M.2.2.1) (hc : c1_ (a0 :: a1 :: q) 1 = true)
    (K : Ev G d b M (pc + 1) (a0 :: some (Value.int x) :: q) st w Z) : Ev G d b M pc (a0 :: a1 :: q) (Value.int x :: st) w Z := ev_istore_ng (k := 1) hd hn hc K
theorem ev_ist2 {G : GX} {d b : Nat} {M : MT} {pc : Nat} {q : List (Option Value)} {a0 a1 a2 : Option Value} {st : List Value} {w : WS} {Z : ZT} {x : Int32} (hd : decode M.2.1 pc = .ok (.istore_n 2, 1)) (hn : 2 < M.2.2.1) (hc : c1_ (a0 :: a1 :: a2 :: q) 2 = true)
    (K : Ev G d b M (pc + 1) (a0 :: a1 :: some (Value.int x) :: q) st w Z) : Ev G d b M pc (a0 :: a1 :: a2 :: q) (Value.int x :: st) w Z := ev_istore_ng (k := 2) hd hn hc K
theorem ev_ist3 {G : GX} {d b : Nat} {M : MT} {pc : Nat} {q : List (Option Value)} {a0 a1 a2 a3 : Option Value} {st : List Value} {w : WS} {Z : ZT} {x : Int32} (hd : decode M.2.1 pc = .ok (.istore_n 3, 1)) (hn : 3 < M.2.2.1) (hc : c1_ (a0 :: a1 :: a2 :: a3 :: q) 3 = true)
    (K : Ev G d b M (pc + 1) (a0 :: a1 :: a2 :: some (Value.int x) :: q) st w Z) : Ev G d b M pc (a0 :: a1 :: a2 :: a3 :: q) (Value.int x :: st) w Z := ev_istore_ng (k := 3) hd hn hc K
theorem ev_ist4 {G : GX} {d b : Nat} {M : MT} {pc : Nat} {q : List (Option Value)} {a0 a1 a2 a3 a4 : Option Value} {st : List Value} {w : WS} {Z : ZT} {x : Int32} (hd : decode M.2.1 pc = .ok (.istore 4, 2)) (hn : 4 < M.2.2.1) (hc : c1_ (a0 :: a1 :: a2 :: a3 :: a4 :: q) 4 = true)
    (K : Ev G d b M (pc + 2) (a0 :: a1 :: a2 :: a3 :: some (Value.int x) :: q) st w Z) : Ev G d b M pc (a0 :: a1 :: a2 :: a3 :: a4 :: q) (Value.int x :: st) w Z := ev_istore_g (k := 4) hd hn hc K
theorem ev_ist5 {G : GX} {d b : Nat} {M : MT} {pc : Nat} {q : List (Option Value)} {a0 a1 a2 a3 a4 a5 : Option Value} {st : List Value} {w : WS} {Z : ZT} {x : Int32} (hd : decode M.2.1 pc = .ok (.istore 5, 2)) (hn : 5 < M.2.2.1) (hc : c1_ (a0 :: a1 :: a2 :: a3 :: a4 :: a5 :: q) 5 = true)
    (K : Ev G d b M (pc + 2) (a0 :: a1 :: a2 :: a3 :: a4 :: some (Value.int x) :: q) st w Z) : Ev G d b M pc (a0 :: a1 :: a2 :: a3 :: a4 :: a5 :: q) (Value.int x :: st) w Z := ev_istore_g (k := 5) hd hn hc K
theorem ev_ist6 {G : GX} {d b : Nat} {M : MT} {pc : Nat} {q : List (Option Value)} {a0 a1 a2 a3 a4 a5 a6 : Option Value} {st : List Value} {w : WS} {Z : ZT} {x : Int32} (hd : decode M.2.1 pc = .ok (.istore 6, 2)) (hn : 6 < M.2.2.1) (hc : c1_ (a0 :: a1 :: a2 :: a3 :: a4 :: a5 :: a6 :: q) 6 = true)
    (K : Ev G d b M (pc + 2) (a0 :: a1 :: a2 :: a3 :: a4 :: a5 :: some (Value.int x) :: q) st w Z) : Ev G d b M pc (a0 :: a1 :: a2 :: a3 :: a4 :: a5 :: a6 :: q) (Value.int x :: st) w Z := ev_istore_g (k := 6) hd hn hc K
theorem ev_ist7 {G : GX} {d b : Nat} {M : MT} {pc : Nat} {q : List (Option Value)} {a0 a1 a2 a3 a4 a5 a6 a7 : Option Value} {st : List Value} {w : WS} {Z : ZT} {x : Int32} (hd : decode M.2.1 pc = .ok (.istore 7, 2)) (hn : 7 < M.2.2.1) (hc : c1_ (a0 :: a1 :: a2 :: a3 :: a4 :: a5 :: a6 :: a7 :: q) 7 = true)
    (K : Ev G d b M (pc + 2) (a0 :: a1 :: a2 :: a3 :: a4 :: a5 :: a6 :: some (Value.int x) :: q) st w Z) : Ev G d b M pc (a0 :: a1 :: a2 :: a3 :: a4 :: a5 :: a6 :: a7 :: q) (Value.int x :: st) w Z := ev_istore_g (k := 7) hd hn hc K
theorem ev_ist8 {G : GX} {d b : Nat} {M : MT} {pc : Nat} {q : List (Option Value)} {a0 a1 a2 a3 a4 a5 a6 a7 a8 : Option Value} {st : List Value} {w : WS} {Z : ZT} {x : Int32} (hd : decode M.2.1 pc = .ok (.istore 8, 2)) (hn : 8 < M.2.2.1) (hc : c1_ (a0 :: a1 :: a2 :: a3 :: a4 :: a5 :: a6 :: a7 :: a8 :: q) 8 = true)
    (K : Ev G d b M (pc + 2) (a0 :: a1 :: a2 :: a3 :: a4 :: a5 :: a6 :: a7 :: some (Value.int x) :: q) st w Z) : Ev G d b M pc (a0 :: a1 :: a2 :: a3 :: a4 :: a5 :: a6 :: a7 :: a8 :: q) (Value.int x :: st) w Z := ev_istore_g (k := 8) hd hn hc K
theorem ev_ist9 {G : GX} {d b : Nat} {M : MT} {pc : Nat} {q : List (Option Value)} {a0 a1 a2 a3 a4 a5 a6 a7 a8 a9 : Option Value} {st : List Value} {w : WS} {Z : ZT} {x : Int32} (hd : decode M.2.1 pc = .ok (.istore 9, 2)) (hn : 9 < M.2.2.1) (hc : c1_ (a0 :: a1 :: a2 :: a3 :: a4 :: a5 :: a6 :: a7 :: a8 :: a9 :: q) 9 = true)
    (K : Ev G d b M (pc + 2) (a0 :: a1 :: a2 :: a3 :: a4 :: a5 :: a6 :: a7 :: a8 :: some (Value.int x) :: q) st w Z) : Ev G d b M pc (a0 :: a1 :: a2 :: a3 :: a4 :: a5 :: a6 :: a7 :: a8 :: a9 :: q) (Value.int x :: st) w Z := ev_istore_g (k := 9) hd hn hc K
theorem ev_ast0 {G : GX} {d b : Nat} {M : MT} {pc : Nat} {q : List (Option Value)} {a0 : Option Value} {st : List Value} {w : WS} {Z : ZT} {x : Nat} (hd : decode M.2.1 pc = .ok (.astore_n 0, 1)) (hn : 0 < M.2.2.1)
    (K : Ev G d b M (pc + 1) (some (Value.ref x) :: q) st w Z) : Ev G d b M pc (a0 :: q) (Value.ref x :: st) w Z := ev_astore_ng (k := 0) hd hn rfl K
theorem ev_ast1 {G : GX} {d b : Nat} {M : MT} {pc : Nat} {q : List (Option Value)} {a0 a1 : Option Value} {st : List Value} {w : WS} {Z : ZT} {x : Nat} (hd : decode M.2.1 pc = .ok (.astore_n 1, 1)) (hn : 1 < M.2.2.1) (hc : c1_ (a0 :: a1 :: q) 1 = true)
    (K : Ev G d b M (pc + 1) (a0 :: some (Value.ref x) :: q) st w Z) : Ev G d b M pc (a0 :: a1 :: q) (Value.ref x :: st) w Z := ev_astore_ng (k := 1) hd hn hc K
theorem ev_ast2 {G : GX} {d b : Nat} {M : MT} {pc : Nat} {q : List (Option Value)} {a0 a1 a2 : Option Value} {st : List Value} {w : WS} {Z : ZT} {x : Nat} (hd : decode M.2.1 pc = .ok (.astore_n 2, 1)) (hn : 2 < M.2.2.1) (hc : c1_ (a0 :: a1 :: a2 :: q) 2 = true)
    (K : Ev G d b M (pc + 1) (a0 :: a1 :: some (Value.ref x) :: q) st w Z) : Ev G d b M pc (a0 :: a1 :: a2 :: q) (Value.ref x :: st) w Z := ev_astore_ng (k := 2) hd hn hc K
theorem ev_ast3 {G : GX} {d b : Nat} {M : MT} {pc : Nat} {q : List (Option Value)} {a0 a1 a2 a3 : Option Value} {st : List Value} {w : WS} {Z : ZT} {x : Nat} (hd : decode M.2.1 pc = .ok (.astore_n 3, 1)) (hn : 3 < M.2.2.1) (hc : c1_ (a0 :: a1 :: a2 :: a3 :: q) 3 = true)
    (K : Ev G d b M (pc + 1) (a0 :: a1 :: a2 :: some (Value.ref x) :: q) st w Z) : Ev G d b M pc (a0 :: a1 :: a2 :: a3 :: q) (Value.ref x :: st) w Z := ev_astore_ng (k := 3) hd hn hc K
theorem ev_ast4 {G : GX} {d b : Nat} {M : MT} {pc : Nat} {q : List (Option Value)} {a0 a1 a2 a3 a4 : Option Value} {st : List Value} {w : WS} {Z : ZT} {x : Nat} (hd : decode M.2.1 pc = .ok (.astore 4, 2)) (hn : 4 < M.2.2.1) (hc : c1_ (a0 :: a1 :: a2 :: a3 :: a4 :: q) 4 = true)
    (K : Ev G d b M (pc + 2) (a0 :: a1 :: a2 :: a3 :: some (Value.ref x) :: q) st w Z) : Ev G d b M pc (a0 :: a1 :: a2 :: a3 :: a4 :: q) (Value.ref x :: st) w Z := ev_astore_g (k := 4) hd hn hc K
theorem ev_ast5 {G : GX} {d b : Nat} {M : MT} {pc : Nat} {q : List (Option Value)} {a0 a1 a2 a3 a4 a5 : Option Value} {st : List Value} {w : WS} {Z : ZT} {x : Nat} (hd : decode M.2.1 pc = .ok (.astore 5, 2)) (hn : 5 < M.2.2.1) (hc : c1_ (a0 :: a1 :: a2 :: a3 :: a4 :: a5 :: q) 5 = true)
    (K : Ev G d b M (pc + 2) (a0 :: a1 :: a2 :: a3 :: a4 :: some (Value.ref x) :: q) st w Z) : Ev G d b M pc (a0 :: a1 :: a2 :: a3 :: a4 :: a5 :: q) (Value.ref x :: st) w Z := ev_astore_g (k := 5) hd hn hc K
theorem ev_ast6 {G : GX} {d b : Nat} {M : MT} {pc : Nat} {q : List (Option Value)} {a0 a1 a2 a3 a4 a5 a6 : Option Value} {st : List Value} {w : WS} {Z : ZT} {x : Nat} (hd : decode M.2.1 pc = .ok (.astore 6, 2)) (hn : 6 < M.2.2.1) (hc : c1_ (a0 :: a1 :: a2 :: a3 :: a4 :: a5 :: a6 :: q) 6 = true)
    (K : Ev G d b M (pc + 2) (a0 :: a1 :: a2 :: a3 :: a4 :: a5 :: some (Value.ref x) :: q) st w Z) : Ev G d b M pc (a0 :: a1 :: a2 :: a3 :: a4 :: a5 :: a6 :: q) (Value.ref x :: st) w Z := ev_astore_g (k := 6) hd hn hc K
theorem ev_ast7 {G : GX} {d b : Nat} {M : MT} {pc : Nat} {q : List (Option Value)} {a0 a1 a2 a3 a4 a5 a6 a7 : Option Value} {st : List Value} {w : WS} {Z : ZT} {x : Nat} (hd : decode M.2.1 pc = .ok (.astore 7, 2)) (hn : 7 < M.2.2.1) (hc : c1_ (a0 :: a1 :: a2 :: a3 :: a4 :: a5 :: a6 :: a7 :: q) 7 = true)
    (K : Ev G d b M (pc + 2) (a0 :: a1 :: a2 :: a3 :: a4 :: a5 :: a6 :: some (Value.ref x) :: q) st w Z) : Ev G d b M pc (a0 :: a1 :: a2 :: a3 :: a4 :: a5 :: a6 :: a7 :: q) (Value.ref x :: st) w Z := ev_astore_g (k := 7) hd hn hc K
theorem ev_ast8 {G : GX} {d b : Nat} {M : MT} {pc : Nat} {q : List (Option Value)} {a0 a1 a2 a3 a4 a5 a6 a7 a8 : Option Value} {st : List Value} {w : WS} {Z : ZT} {x : Nat} (hd : decode M.2.1 pc = .ok (.astore 8, 2)) (hn : 8 < M.2.2.1) (hc : c1_ (a0 :: a1 :: a2 :: a3 :: a4 :: a5 :: a6 :: a7 :: a8 :: q) 8 = true)
    (K : Ev G d b M (pc + 2) (a0 :: a1 :: a2 :: a3 :: a4 :: a5 :: a6 :: a7 :: some (Value.ref x) :: q) st w Z) : Ev G d b M pc (a0 :: a1 :: a2 :: a3 :: a4 :: a5 :: a6 :: a7 :: a8 :: q) (Value.ref x :: st) w Z := ev_astore_g (k := 8) hd hn hc K
theorem ev_ast9 {G : GX} {d b : Nat} {M : MT} {pc : Nat} {q : List (Option Value)} {a0 a1 a2 a3 a4 a5 a6 a7 a8 a9 : Option Value} {st : List Value} {w : WS} {Z : ZT} {x : Nat} (hd : decode M.2.1 pc = .ok (.astore 9, 2)) (hn : 9 < M.2.2.1) (hc : c1_ (a0 :: a1 :: a2 :: a3 :: a4 :: a5 :: a6 :: a7 :: a8 :: a9 :: q) 9 = true)
    (K : Ev G d b M (pc + 2) (a0 :: a1 :: a2 :: a3 :: a4 :: a5 :: a6 :: a7 :: a8 :: some (Value.ref x) :: q) st w Z) : Ev G d b M pc (a0 :: a1 :: a2 :: a3 :: a4 :: a5 :: a6 :: a7 :: a8 :: a9 :: q) (Value.ref x :: st) w Z := ev_astore_g (k := 9) hd hn hc K
theorem ev_iinc0 {G : GX} {d b : Nat} {M : MT} {pc : Nat} {q : List (Option Value)} {st : List Value} {w : WS} {Z : ZT} {n : Int} {x v : Int32} (hd : decode M.2.1 pc = .ok (.iinc 0 n, 3)) (hv : x + Int32.ofInt n = v) (hn : 0 < M.2.2.1)
    (K : Ev G d b M (pc + 3) (some (.int v) :: q) st w Z) : Ev G d b M pc (some (.int x) :: q) st w Z := ev_iinc_g (i := 0) hd rfl hv hn rfl K
theorem ev_iinc1 {G : GX} {d b : Nat} {M : MT} {pc : Nat} {q : List (Option Value)} {a0 : Option Value} {st : List Value} {w : WS} {Z : ZT} {n : Int} {x v : Int32} (hd : decode M.2.1 pc = .ok (.iinc 1 n, 3)) (hv : x + Int32.ofInt n = v) (hn : 1 < M.2.2.1) (hc : c1_ (a0 :: some (.int x) :: q) 1 = true)
    (K : Ev G d b M (pc + 3) (a0 :: some (.int v) :: q) st w Z) : Ev G d b M pc (a0 :: some (.int x) :: q) st w Z := ev_iinc_g (i := 1) hd rfl hv hn hc K
theorem ev_iinc2 {G : GX} {d b : Nat} {M : MT} {pc : Nat} {q : List (Option Value)} {a0 a1 : Option Value} {st : List Value} {w : WS} {Z : ZT} {n : Int} {x v : Int32} (hd : decode M.2.1 pc = .ok (.iinc 2 n, 3)) (hv : x + Int32.ofInt n = v) (hn : 2 < M.2.2.1) (hc : c1_ (a0 :: a1 :: some (.int x) :: q) 2 = true)
    (K : Ev G d b M (pc + 3) (a0 :: a1 :: some (.int v) :: q) st w Z) : Ev G d b M pc (a0 :: a1 :: some (.int x) :: q) st w Z := ev_iinc_g (i := 2) hd rfl hv hn hc K
theorem ev_iinc3 {G : GX} {d b : Nat} {M : MT} {pc : Nat} {q : List (Option Value)} {a0 a1 a2 : Option Value} {st : List Value} {w : WS} {Z : ZT} {n : Int} {x v : Int32} (hd : decode M.2.1 pc = .ok (.iinc 3 n, 3)) (hv : x + Int32.ofInt n = v) (hn : 3 < M.2.2.1) (hc : c1_ (a0 :: a1 :: a2 :: some (.int x) :: q) 3 = true)
    (K : Ev G d b M (pc + 3) (a0 :: a1 :: a2 :: some (.int v) :: q) st w Z) : Ev G d b M pc (a0 :: a1 :: a2 :: some (.int x) :: q) st w Z := ev_iinc_g (i := 3) hd rfl hv hn hc K
theorem ev_iinc4 {G : GX} {d b : Nat} {M : MT} {pc : Nat} {q : List (Option Value)} {a0 a1 a2 a3 : Option Value} {st : List Value} {w : WS} {Z : ZT} {n : Int} {x v : Int32} (hd : decode M.2.1 pc = .ok (.iinc 4 n, 3)) (hv : x + Int32.ofInt n = v) (hn : 4 < M.2.2.1) (hc : c1_ (a0 :: a1 :: a2 :: a3 :: some (.int x) :: q) 4 = true)
    (K : Ev G d b M (pc + 3) (a0 :: a1 :: a2 :: a3 :: some (.int v) :: q) st w Z) : Ev G d b M pc (a0 :: a1 :: a2 :: a3 :: some (.int x) :: q) st w Z := ev_iinc_g (i := 4) hd rfl hv hn hc K
theorem ev_iinc5 {G : GX} {d b : Nat} {M : MT} {pc : Nat} {q : List (Option Value)} {a0 a1 a2 a3 a4 : Option Value} {st : List Value} {w : WS} {Z : ZT} {n : Int} {x v : Int32} (hd : decode M.2.1 pc = .ok (.iinc 5 n, 3)) (hv : x + Int32.ofInt n = v) (hn : 5 < M.2.2.1) (hc : c1_ (a0 :: a1 :: a2 :: a3 :: a4 :: some (.int x) :: q) 5 = true)
    (K : Ev G d b M (pc + 3) (a0 :: a1 :: a2 :: a3 :: a4 :: some (.int v) :: q) st w Z) : Ev G d b M pc (a0 :: a1 :: a2 :: a3 :: a4 :: some (.int x) :: q) st w Z := ev_iinc_g (i := 5) hd rfl hv hn hc K
theorem ev_iinc6 {G : GX} {d b : Nat} {M : MT} {pc : Nat} {q : List (Option Value)} {a0 a1 a2 a3 a4 a5 : Option Value} {st : List Value} {w : WS} {Z : ZT} {n : Int} {x v : Int32} (hd : decode M.2.1 pc = .ok (.iinc 6 n, 3)) (hv : x + Int32.ofInt n = v) (hn : 6 < M.2.2.1) (hc : c1_ (a0 :: a1 :: a2 :: a3 :: a4 :: a5 :: some (.int x) :: q) 6 = true)
    (K : Ev G d b M (pc + 3) (a0 :: a1 :: a2 :: a3 :: a4 :: a5 :: some (.int v) :: q) st w Z) : Ev G d b M pc (a0 :: a1 :: a2 :: a3 :: a4 :: a5 :: some (.int x) :: q) st w Z := ev_iinc_g (i := 6) hd rfl hv hn hc K
theorem ev_iinc7 {G : GX} {d b : Nat} {M : MT} {pc : Nat} {q : List (Option Value)} {a0 a1 a2 a3 a4 a5 a6 : Option Value} {st : List Value} {w : WS} {Z : ZT} {n : Int} {x v : Int32} (hd : decode M.2.1 pc = .ok (.iinc 7 n, 3)) (hv : x + Int32.ofInt n = v) (hn : 7 < M.2.2.1) (hc : c1_ (a0 :: a1 :: a2 :: a3 :: a4 :: a5 :: a6 :: some (.int x) :: q) 7 = true)
    (K : Ev G d b M (pc + 3) (a0 :: a1 :: a2 :: a3 :: a4 :: a5 :: a6 :: some (.int v) :: q) st w Z) : Ev G d b M pc (a0 :: a1 :: a2 :: a3 :: a4 :: a5 :: a6 :: some (.int x) :: q) st w Z := ev_iinc_g (i := 7) hd rfl hv hn hc K
theorem ev_iinc8 {G : GX} {d b : Nat} {M : MT} {pc : Nat} {q : List (Option Value)} {a0 a1 a2 a3 a4 a5 a6 a7 : Option Value} {st : List Value} {w : WS} {Z : ZT} {n : Int} {x v : Int32} (hd : decode M.2.1 pc = .ok (.iinc 8 n, 3)) (hv : x + Int32.ofInt n = v) (hn : 8 < M.2.2.1) (hc : c1_ (a0 :: a1 :: a2 :: a3 :: a4 :: a5 :: a6 :: a7 :: some (.int x) :: q) 8 = true)
    (K : Ev G d b M (pc + 3) (a0 :: a1 :: a2 :: a3 :: a4 :: a5 :: a6 :: a7 :: some (.int v) :: q) st w Z) : Ev G d b M pc (a0 :: a1 :: a2 :: a3 :: a4 :: a5 :: a6 :: a7 :: some (.int x) :: q) st w Z := ev_iinc_g (i := 8) hd rfl hv hn hc K
theorem ev_iinc9 {G : GX} {d b : Nat} {M : MT} {pc : Nat} {q : List (Option Value)} {a0 a1 a2 a3 a4 a5 a6 a7 a8 : Option Value} {st : List Value} {w : WS} {Z : ZT} {n : Int} {x v : Int32} (hd : decode M.2.1 pc = .ok (.iinc 9 n, 3)) (hv : x + Int32.ofInt n = v) (hn : 9 < M.2.2.1) (hc : c1_ (a0 :: a1 :: a2 :: a3 :: a4 :: a5 :: a6 :: a7 :: a8 :: some (.int x) :: q) 9 = true)
    (K : Ev G d b M (pc + 3) (a0 :: a1 :: a2 :: a3 :: a4 :: a5 :: a6 :: a7 :: a8 :: some (.int v) :: q) st w Z) : Ev G d b M pc (a0 :: a1 :: a2 :: a3 :: a4 :: a5 :: a6 :: a7 :: a8 :: some (.int x) :: q) st w Z := ev_iinc_g (i := 9) hd rfl hv hn hc K
theorem ev_dstore {G : GX} {d b : Nat} {M : MT} {pc : Nat} {ls : List (Option Value)} {st : List Value} {w : WS} {Z : ZT} {i : Nat} {x : UInt64} {ls' : List (Option Value)} (hd : decode M.2.1 pc = .ok (.dstore i, 2)) (hn : i + 1 < M.2.2.1) (hc : c1_ ls i = true) (hs : ∀ (j : Nat) (v : Value), ls'[j]? = some (some v) → (j = i ∧ v = .double x) ∨ (j ≠ i ∧ j ≠ i + 1 ∧ ls[j]? = some (some v)))
    (K : Ev G d b M (pc + 2) ls' st w Z) : Ev G d b M pc ls (.double x :: st) w Z := by
  intro p e R s m args below meth c H locs cells slots lsA C r hP hD hS hL
  refine lv_dstore C.2.1 C.2.2.1 hd hL hn rfl (fun lsB hB => K p e R s m args below meth c H locs cells slots lsB C r hP hD hS ⟨hB.1, hB.2.1, fun q hq => ?_⟩)
  obtain ⟨j, v, h1, h2⟩ := pr_mem.mp hq
  rw [Nat.zero_add] at h2
  rcases hs j v h1 with ⟨rfl, rfl⟩ | ⟨n1, n2, h3⟩
  · exact hB.2.2 q (List.mem_cons.mpr (Or.inl h2))
  · refine hB.2.2 q (List.mem_cons_of_mem _ (List.mem_filter.mpr ⟨pr_mem.mpr ⟨j, v, h3, by simpa using h2⟩, ?_⟩))
    rw [h2]
    simp only [Bool.and_eq_true, Bool.not_eq_true', beq_eq_false_iff_ne, ne_eq, Bool.and_eq_false_iff]
    refine ⟨n1, n2, ?_⟩
    by_cases hji : j + 1 = i
    · right
      rw [cv_cat, c1_at hc hji h3]
      decide
    · left
      exact hji
theorem ev_iconst {G : GX} {d b : Nat} {M : MT} {pc : Nat} {ls : List (Option Value)} {st : List Value} {w : WS} {Z : ZT} {n : Int} {v : Int32} (hd : decode M.2.1 pc = .ok (.iconst n, 1)) (hv : Int32.ofInt n = v)
    (K : Ev G d b M (pc + 1) ls (.int v :: st) w Z) : Ev G d b M pc ls st w Z := by
  intro p e R s m args below meth c H locs cells slots lsA C r hP hD hS hL
  exact lv_iconst C.2.1 C.2.2.1 hd hv (K p e R s m args below meth c H locs cells slots lsA C r hP hD hS hL)
theorem ev_bipush {G : GX} {d b : Nat} {M : MT} {pc : Nat} {ls : List (Option Value)} {st : List Value} {w : WS} {Z : ZT} {n : Int} {v : Int32} (hd : decode M.2.1 pc = .ok (.bipush n, 2)) (hv : (Int8.ofInt n).toInt32 = v)
    (K : Ev G d b M (pc + 2) ls (.int v :: st) w Z) : Ev G d b M pc ls st w Z := by
  intro p e R s m args below meth c H locs cells slots lsA C r hP hD hS hL
  exact lv_bipush C.2.1 C.2.2.1 hd hv (K p e R s m args below meth c H locs cells slots lsA C r hP hD hS hL)
theorem ev_sipush {G : GX} {d b : Nat} {M : MT} {pc : Nat} {ls : List (Option Value)} {st : List Value} {w : WS} {Z : ZT} {n : Int} {v : Int32} (hd : decode M.2.1 pc = .ok (.sipush n, 3)) (hv : (Int16.ofInt n).toInt32 = v)
    (K : Ev G d b M (pc + 3) ls (.int v :: st) w Z) : Ev G d b M pc ls st w Z := by
  intro p e R s m args below meth c H locs cells slots lsA C r hP hD hS hL
  exact lv_sipush C.2.1 C.2.2.1 hd hv (K p e R s m args below meth c H locs cells slots lsA C r hP hD hS hL)
theorem ev_lconst {G : GX} {d b : Nat} {M : MT} {pc : Nat} {ls : List (Option Value)} {st : List Value} {w : WS} {Z : ZT} {n : Fin 2} {v : Int64} (hd : decode M.2.1 pc = .ok (.lconst n, 1)) (hv : Int64.ofNat (n : Nat) = v)
    (K : Ev G d b M (pc + 1) ls (.long v :: st) w Z) : Ev G d b M pc ls st w Z := by
  intro p e R s m args below meth c H locs cells slots lsA C r hP hD hS hL
  exact lv_lconst C.2.1 C.2.2.1 hd hv (K p e R s m args below meth c H locs cells slots lsA C r hP hD hS hL)
theorem ev_dconst0 {G : GX} {d b : Nat} {M : MT} {pc : Nat} {ls : List (Option Value)} {st : List Value} {w : WS} {Z : ZT}  (hd : decode M.2.1 pc = .ok (.dconst 0, 1))
    (K : Ev G d b M (pc + 1) ls (.double FP.dconst0 :: st) w Z) : Ev G d b M pc ls st w Z := by
  intro p e R s m args below meth c H locs cells slots lsA C r hP hD hS hL
  exact lv_dconst0 C.2.1 C.2.2.1 hd (K p e R s m args below meth c H locs cells slots lsA C r hP hD hS hL)
theorem ev_ldcf {G : GX} {d b : Nat} {M : MT} {pc : Nat} {ls : List (Option Value)} {st : List Value} {w : WS} {Z : ZT} {i : Nat} {v : UInt32} (hd : decode M.2.1 pc = .ok (.ldc i, 2)) (hw : Cond.constantFloat M.1.cls i v ∈ gd_)
    (K : Ev G d b M (pc + 2) ls (.float v :: st) w Z) : Ev G d b M pc ls st w Z := by
  intro p e R s m args below meth c H locs cells slots lsA C r hP hD hS hL
  exact lv_ldcf C.2.1 C.2.2.1 C.2.2.2.2.2.1 (C.2.2.2.2.2.2.1 _ hw) hd (K p e R s m args below meth c H locs cells slots lsA C r hP hD hS hL)
theorem ev_iadd {G : GX} {d b : Nat} {M : MT} {pc : Nat} {ls : List (Option Value)} {st : List Value} {w : WS} {Z : ZT} {x y : Int32} (hd : decode M.2.1 pc = .ok (.iadd, 1))
    (K : Ev G d b M (pc + 1) ls (.int (x + y) :: st) w Z) : Ev G d b M pc ls (.int y :: .int x :: st) w Z := by
  intro p e R s m args below meth c H locs cells slots lsA C r hP hD hS hL
  exact lv_iadd C.2.1 C.2.2.1 hd (K p e R s m args below meth c H locs cells slots lsA C r hP hD hS hL)
theorem ev_isub {G : GX} {d b : Nat} {M : MT} {pc : Nat} {ls : List (Option Value)} {st : List Value} {w : WS} {Z : ZT} {x y : Int32} (hd : decode M.2.1 pc = .ok (.isub, 1))
    (K : Ev G d b M (pc + 1) ls (.int (x - y) :: st) w Z) : Ev G d b M pc ls (.int y :: .int x :: st) w Z := by
  intro p e R s m args below meth c H locs cells slots lsA C r hP hD hS hL
  exact lv_isub C.2.1 C.2.2.1 hd (K p e R s m args below meth c H locs cells slots lsA C r hP hD hS hL)
theorem ev_imul {G : GX} {d b : Nat} {M : MT} {pc : Nat} {ls : List (Option Value)} {st : List Value} {w : WS} {Z : ZT} {x y : Int32} (hd : decode M.2.1 pc = .ok (.imul, 1))
    (K : Ev G d b M (pc + 1) ls (.int (x * y) :: st) w Z) : Ev G d b M pc ls (.int y :: .int x :: st) w Z := by
  intro p e R s m args below meth c H locs cells slots lsA C r hP hD hS hL
  exact lv_imul C.2.1 C.2.2.1 hd (K p e R s m args below meth c H locs cells slots lsA C r hP hD hS hL)
theorem ev_iand {G : GX} {d b : Nat} {M : MT} {pc : Nat} {ls : List (Option Value)} {st : List Value} {w : WS} {Z : ZT} {x y : Int32} (hd : decode M.2.1 pc = .ok (.iand, 1))
    (K : Ev G d b M (pc + 1) ls (.int (x &&& y) :: st) w Z) : Ev G d b M pc ls (.int y :: .int x :: st) w Z := by
  intro p e R s m args below meth c H locs cells slots lsA C r hP hD hS hL
  exact lv_iand C.2.1 C.2.2.1 hd (K p e R s m args below meth c H locs cells slots lsA C r hP hD hS hL)
theorem ev_idiv {G : GX} {d b : Nat} {M : MT} {pc : Nat} {ls : List (Option Value)} {st : List Value} {w : WS} {Z : ZT} {x y : Int32} (hd : decode M.2.1 pc = .ok (.idiv, 1)) (hne : ¬ y = 0)
    (K : Ev G d b M (pc + 1) ls (.int (x / y) :: st) w Z) : Ev G d b M pc ls (.int y :: .int x :: st) w Z := by
  intro p e R s m args below meth c H locs cells slots lsA C r hP hD hS hL
  exact lv_idiv C.2.1 C.2.2.1 hd hne (K p e R s m args below meth c H locs cells slots lsA C r hP hD hS hL)
theorem ev_irem {G : GX} {d b : Nat} {M : MT} {pc : Nat} {ls : List (Option Value)} {st : List Value} {w : WS} {Z : ZT} {x y : Int32} (hd : decode M.2.1 pc = .ok (.irem, 1)) (hne : ¬ y = 0)
    (K : Ev G d b M (pc + 1) ls (.int (x - x / y * y) :: st) w Z) : Ev G d b M pc ls (.int y :: .int x :: st) w Z := by
  intro p e R s m args below meth c H locs cells slots lsA C r hP hD hS hL
  exact lv_irem C.2.1 C.2.2.1 hd hne (K p e R s m args below meth c H locs cells slots lsA C r hP hD hS hL)
theorem ev_i2l {G : GX} {d b : Nat} {M : MT} {pc : Nat} {ls : List (Option Value)} {st : List Value} {w : WS} {Z : ZT} {x : Int32} (hd : decode M.2.1 pc = .ok (.i2l, 1))
    (K : Ev G d b M (pc + 1) ls (.long x.toInt64 :: st) w Z) : Ev G d b M pc ls (.int x :: st) w Z := by
  intro p e R s m args below meth c H locs cells slots lsA C r hP hD hS hL
  exact lv_i2l C.2.1 C.2.2.1 hd rfl (K p e R s m args below meth c H locs cells slots lsA C r hP hD hS hL)
theorem ev_i2c {G : GX} {d b : Nat} {M : MT} {pc : Nat} {ls : List (Option Value)} {st : List Value} {w : WS} {Z : ZT} {x v : Int32} (hd : decode M.2.1 pc = .ok (.i2c, 1)) (hv : (x.toUInt32 % 65536).toInt32 = v)
    (K : Ev G d b M (pc + 1) ls (.int v :: st) w Z) : Ev G d b M pc ls (.int x :: st) w Z := by
  intro p e R s m args below meth c H locs cells slots lsA C r hP hD hS hL
  exact lv_i2c C.2.1 C.2.2.1 hd hv (K p e R s m args below meth c H locs cells slots lsA C r hP hD hS hL)
theorem ev_i2b {G : GX} {d b : Nat} {M : MT} {pc : Nat} {ls : List (Option Value)} {st : List Value} {w : WS} {Z : ZT} {x v : Int32} (hd : decode M.2.1 pc = .ok (.i2b, 1)) (hv : x.toInt8.toInt32 = v)
    (K : Ev G d b M (pc + 1) ls (.int v :: st) w Z) : Ev G d b M pc ls (.int x :: st) w Z := by
  intro p e R s m args below meth c H locs cells slots lsA C r hP hD hS hL
  exact lv_i2b C.2.1 C.2.2.1 hd hv (K p e R s m args below meth c H locs cells slots lsA C r hP hD hS hL)
theorem ev_ishr {G : GX} {d b : Nat} {M : MT} {pc : Nat} {ls : List (Option Value)} {st : List Value} {w : WS} {Z : ZT} {x y v : Int32} (hd : decode M.2.1 pc = .ok (.ishr, 1)) (hv : x >>> (y &&& 31) = v)
    (K : Ev G d b M (pc + 1) ls (.int v :: st) w Z) : Ev G d b M pc ls (.int y :: .int x :: st) w Z := by
  intro p e R s m args below meth c H locs cells slots lsA C r hP hD hS hL
  rw [← hv] at K
  exact lv_ishr C.2.1 C.2.2.1 hd (K p e R s m args below meth c H locs cells slots lsA C r hP hD hS hL)
theorem ev_i2d {G : GX} {d b : Nat} {M : MT} {pc : Nat} {ls : List (Option Value)} {st : List Value} {w : WS} {Z : ZT} {x : Int32} (hd : decode M.2.1 pc = .ok (.i2d, 1))
    (K : Ev G d b M (pc + 1) ls (.double (FP.i2d x) :: st) w Z) : Ev G d b M pc ls (.int x :: st) w Z := by
  intro p e R s m args below meth c H locs cells slots lsA C r hP hD hS hL
  exact lv_i2d C.2.1 C.2.2.1 hd (K p e R s m args below meth c H locs cells slots lsA C r hP hD hS hL)
theorem ev_i2f {G : GX} {d b : Nat} {M : MT} {pc : Nat} {ls : List (Option Value)} {st : List Value} {w : WS} {Z : ZT} {x : Int32} (hd : decode M.2.1 pc = .ok (.i2f, 1))
    (K : Ev G d b M (pc + 1) ls (.float (FP.i2f x) :: st) w Z) : Ev G d b M pc ls (.int x :: st) w Z := by
  intro p e R s m args below meth c H locs cells slots lsA C r hP hD hS hL
  exact lv_i2f C.2.1 C.2.2.1 hd (K p e R s m args below meth c H locs cells slots lsA C r hP hD hS hL)
theorem ev_f2d {G : GX} {d b : Nat} {M : MT} {pc : Nat} {ls : List (Option Value)} {st : List Value} {w : WS} {Z : ZT} {x : UInt32} (hd : decode M.2.1 pc = .ok (.f2d, 1)) (hne : vf_n64 (FP.f2d x))
    (K : Ev G d b M (pc + 1) ls (.double (FP.f2d x) :: st) w Z) : Ev G d b M pc ls (.float x :: st) w Z := by
  intro p e R s m args below meth c H locs cells slots lsA C r hP hD hS hL
  exact lv_f2d C.2.1 C.2.2.1 hd hne (K p e R s m args below meth c H locs cells slots lsA C r hP hD hS hL)
theorem ev_ddiv {G : GX} {d b : Nat} {M : MT} {pc : Nat} {ls : List (Option Value)} {st : List Value} {w : WS} {Z : ZT} {x y : UInt64} (hd : decode M.2.1 pc = .ok (.ddiv, 1)) (hne : vf_n64 (FP.ddiv x y))
    (K : Ev G d b M (pc + 1) ls (.double (FP.ddiv x y) :: st) w Z) : Ev G d b M pc ls (.double y :: .double x :: st) w Z := by
  intro p e R s m args below meth c H locs cells slots lsA C r hP hD hS hL
  exact lv_ddiv C.2.1 C.2.2.1 hd hne (K p e R s m args below meth c H locs cells slots lsA C r hP hD hS hL)
theorem ev_fdiv {G : GX} {d b : Nat} {M : MT} {pc : Nat} {ls : List (Option Value)} {st : List Value} {w : WS} {Z : ZT} {x y : UInt32} (hd : decode M.2.1 pc = .ok (.fdiv, 1)) (hne : vf_n32 (FP.fdiv x y))
    (K : Ev G d b M (pc + 1) ls (.float (FP.fdiv x y) :: st) w Z) : Ev G d b M pc ls (.float y :: .float x :: st) w Z := by
  intro p e R s m args below meth c H locs cells slots lsA C r hP hD hS hL
  exact lv_fdiv C.2.1 C.2.2.1 hd hne (K p e R s m args below meth c H locs cells slots lsA C r hP hD hS hL)
theorem ev_dcmp {G : GX} {d b : Nat} {M : MT} {pc : Nat} {ls : List (Option Value)} {st : List Value} {w : WS} {Z : ZT} {x y : UInt64} {op : CmpOp} (hd : decode M.2.1 pc = .ok (.dcmp op, 1))
    (K : Ev G d b M (pc + 1) ls (.int (Op.cmpValue (FP.dcmp x y) op) :: st) w Z) : Ev G d b M pc ls (.double y :: .double x :: st) w Z := by
  intro p e R s m args below meth c H locs cells slots lsA C r hP hD hS hL
  exact lv_dcmp C.2.1 C.2.2.1 hd (K p e R s m args below meth c H locs cells slots lsA C r hP hD hS hL)
theorem ev_lcmp {G : GX} {d b : Nat} {M : MT} {pc : Nat} {ls : List (Option Value)} {st : List Value} {w : WS} {Z : ZT} {x y : Int64} (hd : decode M.2.1 pc = .ok (.lcmp, 1))
    (K : Ev G d b M (pc + 1) ls (.int (lg_cmp x y) :: st) w Z) : Ev G d b M pc ls (.long y :: .long x :: st) w Z := by
  intro p e R s m args below meth c H locs cells slots lsA C r hP hD hS hL
  exact W.lcmp C.2.1 C.2.2.1 hd (K p e R s m args below meth c H locs cells slots lsA C r hP hD hS hL)
theorem ev_dup {G : GX} {d b : Nat} {M : MT} {pc : Nat} {ls : List (Option Value)} {st : List Value} {w : WS} {Z : ZT} {v : Value} (hd : decode M.2.1 pc = .ok (.dup, 1)) (hv : v.category = 1)
    (K : Ev G d b M (pc + 1) ls (v :: v :: st) w Z) : Ev G d b M pc ls (v :: st) w Z := by
  intro p e R s m args below meth c H locs cells slots lsA C r hP hD hS hL
  exact lv_dup C.2.1 C.2.2.1 hd (by rw [cv_cat]; exact hv) (K p e R s m args below meth c H locs cells slots lsA C r hP hD hS hL)
theorem ev_pop {G : GX} {d b : Nat} {M : MT} {pc : Nat} {ls : List (Option Value)} {st : List Value} {w : WS} {Z : ZT} {v : Value} (hd : decode M.2.1 pc = .ok (.pop, 1)) (hv : v.category = 1)
    (K : Ev G d b M (pc + 1) ls st w Z) : Ev G d b M pc ls (v :: st) w Z := by
  intro p e R s m args below meth c H locs cells slots lsA C r hP hD hS hL
  exact lv_pop C.2.1 C.2.2.1 hd (by rw [cv_cat]; exact hv) (K p e R s m args below meth c H locs cells slots lsA C r hP hD hS hL)
theorem ev_dup2 {G : GX} {d b : Nat} {M : MT} {pc : Nat} {ls : List (Option Value)} {st : List Value} {w : WS} {Z : ZT} {v v2 : Value} (hd : decode M.2.1 pc = .ok (.dup2, 1)) (hv : v.category = 1) (hv2 : v2.category = 1)
    (K : Ev G d b M (pc + 1) ls (v :: v2 :: v :: v2 :: st) w Z) : Ev G d b M pc ls (v :: v2 :: st) w Z := by
  intro p e R s m args below meth c H locs cells slots lsA C r hP hD hS hL
  exact lv_dup2_11 C.2.1 C.2.2.1 hd (by rw [cv_cat]; exact hv) (by rw [cv_cat]; exact hv2) (K p e R s m args below meth c H locs cells slots lsA C r hP hD hS hL)
theorem ev_if_eq {G : GX} {d b : Nat} {M : MT} {pc : Nat} {ls : List (Option Value)} {st : List Value} {w : WS} {Z : ZT} {x : Int32} {off : Int} {tgt : Nat} (hd : decode M.2.1 pc = .ok (.ifCond .eq off, 3)) (ht : (pc : Int) + off = (tgt : Int))
    (kt : (x = 0) → Ev G d b M tgt ls st w Z) (kf : ¬ (x = 0) → Ev G d b M (pc + 3) ls st w Z) : Ev G d b M pc ls (.int x :: st) w Z := by
  intro p e R s m args below meth c H locs cells slots lsA C r hP hD hS hL
  exact lv_if_eq C.2.1 C.2.2.1 hd ht (fun hh => kt hh p e R s m args below meth c H locs cells slots lsA C r hP hD hS hL) (fun hh => kf hh p e R s m args below meth c H locs cells slots lsA C r hP hD hS hL)
theorem ev_icmp_eq {G : GX} {d b : Nat} {M : MT} {pc : Nat} {ls : List (Option Value)} {st : List Value} {w : WS} {Z : ZT} {x y : Int32} {off : Int} {tgt : Nat} (hd : decode M.2.1 pc = .ok (.if_icmp .eq off, 3)) (ht : (pc : Int) + off = (tgt : Int))
    (kt : (x = y) → Ev G d b M tgt ls st w Z) (kf : ¬ (x = y) → Ev G d b M (pc + 3) ls st w Z) : Ev G d b M pc ls (.int y :: .int x :: st) w Z := by
  intro p e R s m args below meth c H locs cells slots lsA C r hP hD hS hL
  exact lv_icmp_eq C.2.1 C.2.2.1 hd ht (fun hh => kt hh p e R s m args below meth c H locs cells slots lsA C r hP hD hS hL) (fun hh => kf hh p e R s m args below meth c H locs cells slots lsA C r hP hD hS hL)
theorem ev_if_ne {G : GX} {d b : Nat} {M : MT} {pc : Nat} {ls : List (Option Value)} {st : List Value} {w : WS} {Z : ZT} {x : Int32} {off : Int} {tgt : Nat} (hd : decode M.2.1 pc = .ok (.ifCond .ne off, 3)) (ht : (pc : Int) + off = (tgt : Int))
    (kt : (¬ x = 0) → Ev G d b M tgt ls st w Z) (kf : x = 0 → Ev G d b M (pc + 3) ls st w Z) : Ev G d b M pc ls (.int x :: st) w Z := by
  intro p e R s m args below meth c H locs cells slots lsA C r hP hD hS hL
  exact lv_if_ne C.2.1 C.2.2.1 hd ht (fun hh => kt hh p e R s m args below meth c H locs cells slots lsA C r hP hD hS hL) (fun hh => kf hh p e R s m args below meth c H locs cells slots lsA C r hP hD hS hL)
theorem ev_icmp_ne {G : GX} {d b : Nat} {M : MT} {pc : Nat} {ls : List (Option Value)} {st : List Value} {w : WS} {Z : ZT} {x y : Int32} {off : Int} {tgt : Nat} (hd : decode M.2.1 pc = .ok (.if_icmp .ne off, 3)) (ht : (pc : Int) + off = (tgt : Int))
    (kt : (¬ x = y) → Ev G d b M tgt ls st w Z) (kf : x = y → Ev G d b M (pc + 3) ls st w Z) : Ev G d b M pc ls (.int y :: .int x :: st) w Z := by
  intro p e R s m args below meth c H locs cells slots lsA C r hP hD hS hL
  exact lv_icmp_ne C.2.1 C.2.2.1 hd ht (fun hh => kt hh p e R s m args below meth c H locs cells slots lsA C r hP hD hS hL) (fun hh => kf hh p e R s m args below meth c H locs cells slots lsA C r hP hD hS hL)
theorem ev_if_lt {G : GX} {d b : Nat} {M : MT} {pc : Nat} {ls : List (Option Value)} {st : List Value} {w : WS} {Z : ZT} {x : Int32} {off : Int} {tgt : Nat} (hd : decode M.2.1 pc = .ok (.ifCond .lt off, 3)) (ht : (pc : Int) + off = (tgt : Int))
    (kt : (x < 0) → Ev G d b M tgt ls st w Z) (kf : ¬ (x < 0) → Ev G d b M (pc + 3) ls st w Z) : Ev G d b M pc ls (.int x :: st) w Z := by
  intro p e R s m args below meth c H locs cells slots lsA C r hP hD hS hL
  exact lv_if_lt C.2.1 C.2.2.1 hd ht (fun hh => kt hh p e R s m args below meth c H locs cells slots lsA C r hP hD hS hL) (fun hh => kf hh p e R s m args below meth c H locs cells slots lsA C r hP hD hS hL)
theorem ev_icmp_lt {G : GX} {d b : Nat} {M : MT} {pc : Nat} {ls : List (Option Value)} {st : List Value} {w : WS} {Z : ZT} {x y : Int32} {off : Int} {tgt : Nat} (hd : decode M.2.1 pc = .ok (.if_icmp .lt off, 3)) (ht : (pc : Int) + off = (tgt : Int))
    (kt : (x < y) → Ev G d b M tgt ls st w Z) (kf : ¬ (x < y) → Ev G d b M (pc + 3) ls st w Z) : Ev G d b M pc ls (.int y :: .int x :: st) w Z := by
  intro p e R s m args below meth c H locs cells slots lsA C r hP hD hS hL
  exact lv_icmp_lt C.2.1 C.2.2.1 hd ht (fun hh => kt hh p e R s m args below meth c H locs cells slots lsA C r hP hD hS hL) (fun hh => kf hh p e R s m args below meth c H locs cells slots lsA C r hP hD hS hL)
theorem ev_if_ge {G : GX} {d b : Nat} {M : MT} {pc : Nat} {ls : List (Option Value)} {st : List Value} {w : WS} {Z : ZT} {x : Int32} {off : Int} {tgt : Nat} (hd : decode M.2.1 pc = .ok (.ifCond .ge off, 3)) (ht : (pc : Int) + off = (tgt : Int))
    (kt : (0 ≤ x) → Ev G d b M tgt ls st w Z) (kf : ¬ (0 ≤ x) → Ev G d b M (pc + 3) ls st w Z) : Ev G d b M pc ls (.int x :: st) w Z := by
  intro p e R s m args below meth c H locs cells slots lsA C r hP hD hS hL
  exact lv_if_ge C.2.1 C.2.2.1 hd ht (fun hh => kt hh p e R s m args below meth c H locs cells slots lsA C r hP hD hS hL) (fun hh => kf hh p e R s m args below meth c H locs cells slots lsA C r hP hD hS hL)
theorem ev_icmp_ge {G : GX} {d b : Nat} {M : MT} {pc : Nat} {ls : List (Option Value)} {st : List Value} {w : WS} {Z : ZT} {x y : Int32} {off : Int} {tgt : Nat} (hd : decode M.2.1 pc = .ok (.if_icmp .ge off, 3)) (ht : (pc : Int) + off = (tgt : Int))
    (kt : (y ≤ x) → Ev G d b M tgt ls st w Z) (kf : ¬ (y ≤ x) → Ev G d b M (pc + 3) ls st w Z) : Ev G d b M pc ls (.int y :: .int x :: st) w Z := by
  intro p e R s m args below meth c H locs cells slots lsA C r hP hD hS hL
  exact lv_icmp_ge C.2.1 C.2.2.1 hd ht (fun hh => kt hh p e R s m args below meth c H locs cells slots lsA C r hP hD hS hL) (fun hh => kf hh p e R s m args below meth c H locs cells slots lsA C r hP hD hS hL)
theorem ev_if_gt {G : GX} {d b : Nat} {M : MT} {pc : Nat} {ls : List (Option Value)} {st : List Value} {w : WS} {Z : ZT} {x : Int32} {off : Int} {tgt : Nat} (hd : decode M.2.1 pc = .ok (.ifCond .gt off, 3)) (ht : (pc : Int) + off = (tgt : Int))
    (kt : (0 < x) → Ev G d b M tgt ls st w Z) (kf : ¬ (0 < x) → Ev G d b M (pc + 3) ls st w Z) : Ev G d b M pc ls (.int x :: st) w Z := by
  intro p e R s m args below meth c H locs cells slots lsA C r hP hD hS hL
  exact lv_if_gt C.2.1 C.2.2.1 hd ht (fun hh => kt hh p e R s m args below meth c H locs cells slots lsA C r hP hD hS hL) (fun hh => kf hh p e R s m args below meth c H locs cells slots lsA C r hP hD hS hL)
theorem ev_icmp_gt {G : GX} {d b : Nat} {M : MT} {pc : Nat} {ls : List (Option Value)} {st : List Value} {w : WS} {Z : ZT} {x y : Int32} {off : Int} {tgt : Nat} (hd : decode M.2.1 pc = .ok (.if_icmp .gt off, 3)) (ht : (pc : Int) + off = (tgt : Int))
    (kt : (y < x) → Ev G d b M tgt ls st w Z) (kf : ¬ (y < x) → Ev G d b M (pc + 3) ls st w Z) : Ev G d b M pc ls (.int y :: .int x :: st) w Z := by
  intro p e R s m args below meth c H locs cells slots lsA C r hP hD hS hL
  exact lv_icmp_gt C.2.1 C.2.2.1 hd ht (fun hh => kt hh p e R s m args below meth c H locs cells slots lsA C r hP hD hS hL) (fun hh => kf hh p e R s m args below meth c H locs cells slots lsA C r hP hD hS hL)
theorem ev_if_le {G : GX} {d b : Nat} {M : MT} {pc : Nat} {ls : List (Option Value)} {st : List Value} {w : WS} {Z : ZT} {x : Int32} {off : Int} {tgt : Nat} (hd : decode M.2.1 pc = .ok (.ifCond .le off, 3)) (ht : (pc : Int) + off = (tgt : Int))
    (kt : (x ≤ 0) → Ev G d b M tgt ls st w Z) (kf : ¬ (x ≤ 0) → Ev G d b M (pc + 3) ls st w Z) : Ev G d b M pc ls (.int x :: st) w Z := by
  intro p e R s m args below meth c H locs cells slots lsA C r hP hD hS hL
  exact lv_if_le C.2.1 C.2.2.1 hd ht (fun hh => kt hh p e R s m args below meth c H locs cells slots lsA C r hP hD hS hL) (fun hh => kf hh p e R s m args below meth c H locs cells slots lsA C r hP hD hS hL)
theorem ev_icmp_le {G : GX} {d b : Nat} {M : MT} {pc : Nat} {ls : List (Option Value)} {st : List Value} {w : WS} {Z : ZT} {x y : Int32} {off : Int} {tgt : Nat} (hd : decode M.2.1 pc = .ok (.if_icmp .le off, 3)) (ht : (pc : Int) + off = (tgt : Int))
    (kt : (x ≤ y) → Ev G d b M tgt ls st w Z) (kf : ¬ (x ≤ y) → Ev G d b M (pc + 3) ls st w Z) : Ev G d b M pc ls (.int y :: .int x :: st) w Z := by
  intro p e R s m args below meth c H locs cells slots lsA C r hP hD hS hL
  exact lv_icmp_le C.2.1 C.2.2.1 hd ht (fun hh => kt hh p e R s m args below meth c H locs cells slots lsA C r hP hD hS hL) (fun hh => kf hh p e R s m args below meth c H locs cells slots lsA C r hP hD hS hL)
theorem ev_goto {G : GX} {d b : Nat} {M : MT} {pc : Nat} {ls : List (Option Value)} {st : List Value} {w : WS} {Z : ZT} {off : Int} {tgt : Nat} (hd : decode M.2.1 pc = .ok (.goto off, 3)) (ht : (pc : Int) + off = (tgt : Int)) (K : Ev G d b M tgt ls st w Z) : Ev G d b M pc ls st w Z := by
  intro p e R s m args below meth c H locs cells slots lsA C r hP hD hS hL
  exact lv_goto C.2.1 C.2.2.1 hd ht (K p e R s m args below meth c H locs cells slots lsA C r hP hD hS hL)
theorem ev_ifnull {G : GX} {d b : Nat} {M : MT} {pc : Nat} {ls : List (Option Value)} {st : List Value} {w : WS} {Z : ZT} {x : Nat} {off : Int} (hd : decode M.2.1 pc = .ok (.ifnull off, 3)) (K : Ev G d b M (pc + 3) ls st w Z) : Ev G d b M pc ls (.ref x :: st) w Z := by
  intro p e R s m args below meth c H locs cells slots lsA C r hP hD hS hL
  exact lv_ifnull C.2.1 C.2.2.1 hd (K p e R s m args below meth c H locs cells slots lsA C r hP hD hS hL)
theorem ev_tableIn {G : GX} {d b : Nat} {M : MT} {pc : Nat} {ls : List (Option Value)} {st : List Value} {w : WS} {Z : ZT} {dflt lo hi : Int} {offs : Array Int} {len : Nat} {x : Int32} {off : Int} {tgt : Nat} (hd : decode M.2.1 pc = .ok (.tableswitch dflt lo hi offs, len)) (h1 : ¬ x.toInt < lo) (h2 : ¬ hi < x.toInt) (ho : offs[(x.toInt - lo).toNat]? = some off) (ht : (pc : Int) + off = (tgt : Int)) (K : Ev G d b M tgt ls st w Z) : Ev G d b M pc ls (.int x :: st) w Z := by
  intro p e R s m args below meth c H locs cells slots lsA C r hP hD hS hL
  exact lv_tableIn C.2.1 C.2.2.1 hd h1 h2 ho ht (K p e R s m args below meth c H locs cells slots lsA C r hP hD hS hL)
theorem ev_tableOut {G : GX} {d b : Nat} {M : MT} {pc : Nat} {ls : List (Option Value)} {st : List Value} {w : WS} {Z : ZT} {dflt lo hi : Int} {offs : Array Int} {len : Nat} {x : Int32} {tgt : Nat} (hd : decode M.2.1 pc = .ok (.tableswitch dflt lo hi offs, len)) (h : x.toInt < lo ∨ hi < x.toInt) (ht : (pc : Int) + dflt = (tgt : Int)) (K : Ev G d b M tgt ls st w Z) : Ev G d b M pc ls (.int x :: st) w Z := by
  intro p e R s m args below meth c H locs cells slots lsA C r hP hD hS hL
  exact lv_tableOut C.2.1 C.2.2.1 hd h ht (K p e R s m args below meth c H locs cells slots lsA C r hP hD hS hL)
theorem ev_lookup {G : GX} {d b : Nat} {M : MT} {pc : Nat} {ls : List (Option Value)} {st : List Value} {w : WS} {Z : ZT} {dflt : Int} {ps : Array (Int × Int)} {len : Nat} {x : Int32} {off : Int} {tgt : Nat} (hd : decode M.2.1 pc = .ok (.lookupswitch dflt ps, len)) (hp : (ps.toList.zip (ps.toList.drop 1)).all (fun (a, next) => a.1 < next.1) = true) (ho : Op.lookupswitch.offset ps.toList dflt x.toInt = off) (ht : (pc : Int) + off = (tgt : Int)) (K : Ev G d b M tgt ls st w Z) : Ev G d b M pc ls (.int x :: st) w Z := by
  intro p e R s m args below meth c H locs cells slots lsA C r hP hD hS hL
  exact lv_lookup C.2.1 C.2.2.1 hd hp ho ht (K p e R s m args below meth c H locs cells slots lsA C r hP hD hS hL)
theorem ev_sub {G : GX} {d b : Nat} {M : MT} {pc : Nat} {ls : List (Option Value)} {st : List Value} {w : WS} {Z : ZT} (ls' : List (Option Value)) (hs : ∀ (i : Nat) (v : Value), ls'[i]? = some (some v) → ls[i]? = some (some v)) (K : Ev G d b M pc ls' st w Z) : Ev G d b M pc ls st w Z := by
  intro p e R s m args below meth c H locs cells slots lsA C r hP hD hS hL
  exact K p e R s m args below meth c H locs cells slots lsA C r hP hD hS (ls_sub hL hs)
