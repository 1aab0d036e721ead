theorem al_nat : Cond.native arraycopyName ∈ gd_ := gd_t 512 (by decide +kernel) (by decide +kernel)
theorem al_stat : Cond.static arraycopyName ∈ gd_ := gd_t 511 (by decide +kernel) (by decide +kernel)
theorem al_ini : Cond.initialized "java/lang/System" ∈ gd_ := gd_t 20 (by decide +kernel) (by decide +kernel)
theorem ml_ini : Cond.initialized "java/lang/Math" ∈ gd_ := gd_t 10 (by decide +kernel) (by decide +kernel)
theorem ml_abss : Cond.static Lib.Math.abs.name ∈ gd_ := gd_t 968 (by decide +kernel) (by decide +kernel)
theorem ml_absc : Cond.code Lib.Math.abs.name Lib.Math.abs.code 1 (some .int) ∈ gd_ := gd_t 969 (by decide +kernel) (by decide +kernel)
theorem ml_maxs : Cond.static Lib.Math.max.name ∈ gd_ := gd_t 653 (by decide +kernel) (by decide +kernel)
theorem ml_maxc : Cond.code Lib.Math.max.name Lib.Math.max.code 2 (some .int) ∈ gd_ := gd_t 654 (by decide +kernel) (by decide +kernel)
theorem ml_mins : Cond.static Lib.Math.min.name ∈ gd_ := gd_t 286 (by decide +kernel) (by decide +kernel)
theorem ml_minc : Cond.code Lib.Math.min.name Lib.Math.min.code 2 (some .int) ∈ gd_ := gd_t 287 (by decide +kernel) (by decide +kernel)
/-! calls that throw, throws, catches -/
theorem ev_thrown {G : GX} {p : Program} {e : Env} {R : Room} {s : State} {m : MethodId} {args : Array Value} {below : List Frame} {meth : Method} {c : Code} {H : Heap} {locs : List Loc} {cells slots mc ms pc : Nat} {lsA : Array Slot} {st0 rest as : List Value} {Q : State → Prop} {E : String} {w' : WS}
    (hr : vx_Run p (gL G) e R s m args below meth c H locs cells slots mc ms (F0 m pc lsA st0) rest (qc_ G (.inr E) w' as.toArray) (xc_ G (.inr E) w') (fr_ G)) (hS : va_S (fr_ G) s.heap H locs)
    (kk : ∀ (H1 : Heap) (locs1 : List Loc) (q : Addr) (ce : Cell), va_P (gD G) vwCl (wl_ G w') H1 → va_D (fr_ G) (wl_ G w') → va_S (fr_ G) s.heap H1 locs1 → H1[q]? = some ce → ce.vm = .none → s.vm.findClass E = some ce.cls → vx_W p (gL G) e R s m args below meth c H1 locs1 (cells + mc) (slots + ms) Q (F0 m pc lsA rest) q) : W p (gL G) e R s m args below meth c H locs cells slots Q (F0 m pc lsA st0) := by
  intro T hT X
  rcases hr T hT X with ⟨v, st₀, t, T', L, h0, X', hL, e1, e2, ⟨⟨r', hr', -⟩, -⟩, -⟩ | ⟨q, st₀, t, T', L, E', ce, h0, X', hL, e1, e2, ⟨hE, hp, hz, hk⟩, hq, hv, hcl, st⟩
  · cases hr'
  · cases hE
    rw [h0] at hz hk
    obtain ⟨t2, a1, b1⟩ := kk T'.heap (locs ++ L) q ce (by rw [e1]; exact hp.1) hp.2
      ⟨Nat.le_trans hS.1 (by rw [e1]; exact hz), fun q h1 h2 => by rw [e1, hk q (Nat.lt_of_lt_of_le h1 hS.1) h2]; exact hS.2.1 q h1 h2, fun q hq => by
        rcases List.mem_append.mp hq with h | h
        · exact hS.2.2 q h
        · exact hL q h⟩ (by rw [e1]; exact hq) hv hcl T' rfl X'
    exact ⟨t2, Steps.trans st a1, b1⟩
theorem ev_leave {G : GX} {d b : Nat} {M : MT} {p : Program} {e : Env} {R : Room} {s : State} {m : MethodId} {args : Array Value} {below : List Frame} {meth : Method} {c : Code} {H : Heap} {locs : List Loc} {cells slots pc : Nat} {lsA : Array Slot} {rest : List Value} {E : String} {w' : WS} {q : Addr} {ce : Cell}
    (C : cx_ G M p s m args meth c) (hh : M.2.2.2.2 = []) (r : rm_ d b R cells slots) (hP : va_P (gD G) vwCl (wl_ G w') H) (hD : va_D (fr_ G) (wl_ G w')) (hS : va_S (fr_ G) s.heap H locs) (hq : H[q]? = some ce) (hv : ce.vm = .none) (hc : s.vm.findClass E = some ce.cls) : vx_W p (gL G) e R s m args below meth c H locs cells slots (zu_ G (.inr E) w' R below args s) (F0 m pc lsA rest) q := by
  have ht := C.2.2.2.2.2.2.2.2.1
  rw [hh] at ht
  exact vx_out (fun x hx => by rw [ht] at hx; cases hx) C.2.2.2.2.2.2.2.1.1 hq hv hc (fun t h1 h2 => ⟨rfl, ⟨by rw [h1]; exact hP, hD⟩, hS.F h1⟩) hS.2.2 (by have := r.2.2.1; omega) (by have := r.2.2.2; omega)
theorem ev_callSx {G : GX} {d b d' b' : Nat} {M M' : MT} {pc idx n : Nat} {ls : List (Option Value)} {as rest : List Value} {w w' : WS} {E : String} (hl : sl_ M.1.cls idx M' n) (hc : Big G d' b' M' as w (.inr E) w') (hd : decode M.2.1 pc = .ok (.invokestatic idx, 3)) (hn : as.length = n) (hlt : d' < d) (hb : b' ≤ b) (hm : sm_ rest = true) (hh : M.2.2.2.2 = []) :
    Ev G d b M pc ls (ra_ as rest) w (zu_ G (.inr E) w') := by
  intro p e R s m args below meth c H locs cells slots lsA C r hP hD hS hL
  obtain ⟨h1, h2, h3, h4, h5, h6, h7, h8, h9⟩ := hl
  have hts := C.2.2.2.2.2.2.1
  refine ev_thrown (vx_runS (As := as.map (cv_ G)) (rest := rest.map (cv_ G)) ⟨C.2.1, C.2.2.1, C.2.2.2.1, C.2.2.2.2.2.1, hts⟩ (hc C.1) ⟨cb_ C r hlt h1 h2 (hts _ h3) h5 h6 h7 h8 h9, hts _ h4⟩ ⟨pc_blind, pc_at C.1 C.2.2.2.2.2.2.2.2.2 hP hD hS⟩ rfl (by rw [List.length_map]; exact hn) hL.1 (ra_map G as rest) ?_ hd (rm_fit r hb)) hS (fun H1 locs1 q ce hP1 hD1 hS1 hq hv hcl => ev_leave C hh (rm_after r hb) hP1 hD1 hS1 hq hv hcl)
  rw [cv_sum]
  simpa [sm_, JFrame.monitorRoom] using hm
theorem ev_callVx {G : GX} {d b d' b' : Nat} {M M' : MT} {pc idx n k : Nat} {ls : List (Option Value)} {as rest : List Value} {w w' : WS} {E : String} (hl : vl_ M.1.cls idx M' n) (hk : co_ k M'.1.cls) (hc : Big G d' b' M' (.ref k :: as) w (.inr E) w') (hd : decode M.2.1 pc = .ok (.invokevirtual idx, 3)) (hn : as.length = n) (hlt : d' < d) (hb : b' ≤ b) (hm : sm_ rest = true) (hh : M.2.2.2.2 = []) :
    Ev G d b M pc ls (ra_ as (.ref k :: rest)) w (zu_ G (.inr E) w') := by
  intro p e R s m args below meth c H locs cells slots lsA C r hP hD hS hL
  obtain ⟨h1, h2, h3, h4, h5, h6, h7, h8, h9⟩ := hl
  have hts := C.2.2.2.2.2.2.1
  refine ev_thrown (vx_runV (As := as.map (cv_ G)) (rest := rest.map (cv_ G)) ⟨C.2.1, C.2.2.1, C.2.2.2.1, C.2.2.2.2.2.1, hts⟩ (hc C.1) ⟨cb_ C r hlt h1 h2 (hts _ h3) h5 h6 h7 h8 h9, hts _ h4.1, hts _ h4.2⟩ ⟨pc_blind, co_recv hk (bs_K C.2.2.2.2.2.2.2.2.2) hP, pc_at (args := .ref k :: as) C.1 C.2.2.2.2.2.2.2.2.2 hP hD hS⟩ rfl (by rw [List.length_map]; exact hn) hL.1 (ra_map G as (.ref k :: rest)) ?_ hd (rm_fit r hb)) hS (fun H1 locs1 q ce hP1 hD1 hS1 hq hv hcl => ev_leave C hh (rm_after r hb) hP1 hD1 hS1 hq hv hcl)
  rw [cv_sum]
  simpa [sm_, JFrame.monitorRoom] using hm
abbrev exN : List String := ["java/lang/RuntimeException", "java/lang/Exception"]
/-- what a throw of a new exception stands on -/
def tl_ (own : String) (ik is ic : Nat) (cls text : String) : Prop := Bundle.fit cls = true ∧ Cond.classLink own ik cls ∈ gd_ ∧ Cond.initialized cls ∈ gd_ ∧ Cond.stringRef own is text ∈ tables_1 ∧ ∀ w ∈ vx_atS own ic cls exN, (nw_ w = true ∧ w ∈ tables_1) ∨ w ∈ gd_
theorem ow_ot {own : String} {ik : Nat} {cls : String} {L : List Cond} (h1 : Cond.classLink own ik cls ∈ gd_) (h2 : Cond.initialized cls ∈ gd_) (h3 : ∀ w ∈ L, (nw_ w = true ∧ w ∈ tables_1) ∨ w ∈ gd_) : ∀ w ∈ Cond.classLink own ik cls :: Cond.initialized cls :: L, vx_ot w = true := by
  intro w hw
  have hg : (nw_ w = true ∧ w ∈ tables_1) ∨ w ∈ gd_ := by
    rcases List.mem_cons.mp hw with rfl | hw
    · exact Or.inr h1
    · rcases List.mem_cons.mp hw with rfl | hw
      · exact Or.inr h2
      · exact h3 w hw
  rcases hg with hg | hg
  · unfold vx_ot
    rw [nw_tab hg.1, Bool.true_or]
  · unfold vx_ot
    rw [gd_good hg, Bool.or_true]
theorem ow_at {G : GX} {args : Array Value} {s : State} {L : List Cond} (hB : bs_ G s s.heap) (hts : ∀ w ∈ gd_, w.before args s = true) (h3 : ∀ w ∈ L, (nw_ w = true ∧ w ∈ tables_1) ∨ w ∈ gd_) : ∀ w ∈ L, w.before args s = true := by
  intro w hw
  rcases h3 w hw with h | h
  · exact va_Nw.use (nw_tab h.1) (hB.2.2.2.2.2.2.2.2.2.2 _ h.2 h.1)
  · exact hts w h
theorem ex_names : ∀ n ∈ exN, Bundle.fit n = true := by decide +kernel
set_option maxRecDepth 20000 in
theorem th_lo {k d n : Nat} (h : k ≤ 8) (h2 : 64 * d + 300 ≤ n) : k + (13 * (exN.length + 1) + 43) ≤ n := by
  show k + (13 * (2 + 1) + 43) ≤ n
  omega
theorem ev_throw {G : GX} {d b : Nat} {M : MT} {pc ik is ic : Nat} {ls : List (Option Value)} {st : List Value} {w : WS} {cls text : String} (ht : tl_ M.1.cls ik is ic cls text)
    (d0 : decode M.2.1 pc = .ok (.new ik, 3)) (d3 : decode M.2.1 (pc + 3) = .ok (.dup, 1)) (d4 : decode M.2.1 (pc + 4) = .ok (.ldc is, 2)) (d6 : decode M.2.1 (pc + 6) = .ok (.invokespecial ic, 3)) (d9 : decode M.2.1 (pc + 9) = .ok (.athrow, 1)) (hb : 1 ≤ b) (hh : M.2.2.2.2 = []) (hm : sm_ st = true) : Ev G d b M pc ls st w (zu_ G (.inr cls) w) := by
  intro p e R s m args below meth c H locs cells slots lsA C r hP hD hS hL
  have hB := C.2.2.2.2.2.2.2.2.2
  have htb := C.2.2.2.2.2.2.2.2.1
  have hts := C.2.2.2.2.2.2.1
  rw [hh] at htb
  obtain ⟨sa, hsa⟩ := hB.2.2.2.2.2.2.1 _ _ _ ht.2.2.2.1
  obtain ⟨r1, r2, r3, r4⟩ := r
  refine vx_throwS C.2.1 C.2.2.1 C.1.1 C.2.2.2.2.2.1 ht.1 ex_names (hts _ ht.2.1) (hts _ ht.2.2.1) hsa (ow_at hB hts ht.2.2.2.2) (ow_ot ht.2.1 ht.2.2.1 ht.2.2.2.2) hB.2.2.1 hB.2.2.2.1 hS (hL.1.trans C.2.2.2.1.symm) d0 d3 d4 d6 d9 (fun x hx => by rw [htb] at hx; cases hx) (by show 2 + 3 < R.frames; omega) ?_ (by omega) (by omega) C.2.2.2.2.2.2.2.1.1 (fun t h1 h2 h3 => ⟨rfl, ⟨hP.kept (fun k q hk => h3 _ (vx_lt hP hk)), hD⟩, Nat.le_trans hS.1 h2, fun q h4 h5 => (h3 q (Nat.lt_of_lt_of_le h4 hS.1)).trans (hS.2.1 q h4 h5)⟩) hS.2.2 (by omega) (by omega)
  rw [cv_sum]
  exact th_lo (by simpa [sm_] using hm) r2
theorem ev_throwW {G : GX} {d b : Nat} {M : MT} {pc ik is ic : Nat} {ls : List (Option Value)} {st : List Value} {w : WS} {cls text : String} (ht : tl_ M.1.cls ik is ic cls text)
    (d0 : decode M.2.1 pc = .ok (.new ik, 3)) (d3 : decode M.2.1 (pc + 3) = .ok (.dup, 1)) (d4 : decode M.2.1 (pc + 4) = .ok (.ldc_w is, 3)) (d6 : decode M.2.1 (pc + 7) = .ok (.invokespecial ic, 3)) (d9 : decode M.2.1 (pc + 10) = .ok (.athrow, 1)) (hb : 1 ≤ b) (hh : M.2.2.2.2 = []) (hm : sm_ st = true) : Ev G d b M pc ls st w (zu_ G (.inr cls) w) := by
  intro p e R s m args below meth c H locs cells slots lsA C r hP hD hS hL
  have hB := C.2.2.2.2.2.2.2.2.2
  have htb := C.2.2.2.2.2.2.2.2.1
  have hts := C.2.2.2.2.2.2.1
  rw [hh] at htb
  obtain ⟨sa, hsa⟩ := hB.2.2.2.2.2.2.1 _ _ _ ht.2.2.2.1
  obtain ⟨r1, r2, r3, r4⟩ := r
  refine vx_throwSW C.2.1 C.2.2.1 C.1.1 C.2.2.2.2.2.1 ht.1 ex_names (hts _ ht.2.1) (hts _ ht.2.2.1) hsa (ow_at hB hts ht.2.2.2.2) (ow_ot ht.2.1 ht.2.2.1 ht.2.2.2.2) hB.2.2.1 hB.2.2.2.1 hS (hL.1.trans C.2.2.2.1.symm) d0 d3 d4 d6 d9 (fun x hx => by rw [htb] at hx; cases hx) (by show 2 + 3 < R.frames; omega) ?_ (by omega) (by omega) C.2.2.2.2.2.2.2.1.1 (fun t h1 h2 h3 => ⟨rfl, ⟨hP.kept (fun k q hk => h3 _ (vx_lt hP hk)), hD⟩, Nat.le_trans hS.1 h2, fun q h4 h5 => (h3 q (Nat.lt_of_lt_of_le h4 hS.1)).trans (hS.2.1 q h4 h5)⟩) hS.2.2 (by omega) (by omega)
  rw [cv_sum]
  exact th_lo (by simpa [sm_] using hm) r2
/-- the handlers ahead of the one that catches: none of them takes E -/
def hp_ (own E : String) (hs : List (Nat × Nat × Nat × Nat)) : Prop := ∀ z ∈ hs, z.2.2.2 ≠ 0 ∧ ∃ nm : String, Cond.classLink own z.2.2.2 nm ∈ gd_ ∧ (E, nm) ∈ ncs_
theorem ev_caught {G : GX} {d b : Nat} {M : MT} {p : Program} {e : Env} {R : Room} {s : State} {m : MethodId} {args : Array Value} {below : List Frame} {meth : Method} {c : Code} {H : Heap} {locs : List Loc} {cells slots pc : Nat} {lsA : Array Slot} {ls : List (Option Value)} {rest : List Value} {E : String} {w' : WS} {q : Addr} {ce : Cell} {Z : ZT}
    (C : cx_ G M p s m args meth c) (pre suf : List (Nat × Nat × Nat × Nat)) {x : Nat × Nat × Nat × Nat} (hh : M.2.2.2.2 = pre ++ x :: suf) (hp : hp_ M.1.cls E pre) (hx1 : x.1 ≤ pc) (hx2 : pc < x.2.1) (hx3 : x.2.2.2 ≠ 0) (hx4 : Cond.classLink M.1.cls x.2.2.2 E ∈ gd_) (hx5 : Cond.castable E E ∈ tables_1)
    (r : rm_ d b R cells slots) (hP : va_P (gD G) vwCl (wl_ G w') H) (hD : va_D (fr_ G) (wl_ G w')) (hS : va_S (fr_ G) s.heap H locs) (hL : ls_ G M.2.2.1 lsA ls) (hq : H[q]? = some ce) (hv : ce.vm = .none) (hc : s.vm.findClass E = some ce.cls)
    {k len : Nat} (hst : (∃ j : Fin 4, (j : Nat) = k ∧ decode M.2.1 x.2.2.1 = .ok (.astore_n j, 1) ∧ len = 1) ∨ (decode M.2.1 x.2.2.1 = .ok (.astore k, 2) ∧ len = 2)) (hk : k < M.2.2.1) (hc1 : c1_ ls k = true) (K : Ev G d b M (x.2.2.1 + len) (ls.set k none) [] w' Z) : vx_W p (gL G) e R s m args below meth c H locs cells slots (Z R below args s) (F0 m pc lsA rest) q := by
  have hts := C.2.2.2.2.2.2.1
  have ht := C.2.2.2.2.2.2.2.2.1
  rw [hh] at ht
  refine vx_catch C.2.2.2.2.2.1 (tableOf pre) ⟨x.1, x.2.1, x.2.2.1, x.2.2.2⟩ (tableOf suf) (by rw [ht]; simp [tableOf]) (fun z hz => ?_) (by simp [covers, hx1, hx2]) hx3 (hts _ hx4) (va_Nw.use rfl (C.2.2.2.2.2.2.2.2.2.2.2.2.2.2.2.2.2.2.2 _ hx5 rfl)) hq hv hc ?_
  · right
    obtain ⟨z', hz', rfl⟩ := List.mem_map.mp hz
    obtain ⟨h1, nm, h2, h3⟩ := hp z' hz'
    exact ⟨h1, nm, hts _ h2, C.2.2.2.2.2.2.2.2.2.2.2.2.2.2.2.2.2.1 _ h3⟩
  · have fin : ∀ lsB : Array Slot, lv_has lsB M.2.2.1 ((k, Value.ref q) :: (pr_ G 0 ls).filter (fun q => !(q.1 == k) && !(q.1 + 1 == k && q.2.category == 2))) → W p (gL G) e R s m args below meth c H locs cells slots (Z R below args s) (F0 m (x.2.2.1 + len) lsB []) :=
      fun lsB hB => K p e R s m args below meth c H locs cells slots lsB C r hP hD hS (ls_store hB hc1 (fun v hv => by cases hv))
    rcases hst with ⟨j, rfl, h1, rfl⟩ | ⟨h1, rfl⟩
    · exact lv_astore_n C.2.1 C.2.2.1 h1 rfl hL hk rfl fin
    · exact lv_astore C.2.1 C.2.2.1 h1 hL hk rfl fin
theorem ev_callVc {G : GX} {d b d' b' : Nat} {M M' : MT} {pc idx n k k' : Nat} {ls : List (Option Value)} {as rest : List Value} {w w' : WS} {E : String} {Z : ZT} (hl : vl_ M.1.cls idx M' n) (hk : co_ k M'.1.cls) (hc : Big G d' b' M' (.ref k :: as) w (.inr E) w') (hd : decode M.2.1 pc = .ok (.invokevirtual idx, 3)) (hn : as.length = n) (hlt : d' < d) (hb : b' ≤ b) (hm : sm_ rest = true)
    (pre suf : List (Nat × Nat × Nat × Nat)) {x : Nat × Nat × Nat × Nat} (hh : M.2.2.2.2 = pre ++ x :: suf) (hp : hp_ M.1.cls E pre) (hx1 : x.1 ≤ pc) (hx2 : pc < x.2.1) (hx3 : x.2.2.2 ≠ 0) (hx4 : Cond.classLink M.1.cls x.2.2.2 E ∈ gd_) (hx5 : Cond.castable E E ∈ tables_1)
    {len : Nat} (hst : (∃ j : Fin 4, (j : Nat) = k' ∧ decode M.2.1 x.2.2.1 = .ok (.astore_n j, 1) ∧ len = 1) ∨ (decode M.2.1 x.2.2.1 = .ok (.astore k', 2) ∧ len = 2)) (hk' : k' < M.2.2.1) (hc1 : c1_ ls k' = true) (K : Ev G d (b - b') M (x.2.2.1 + len) (ls.set k' none) [] w' Z) :
    Ev G d b M pc ls (ra_ as (.ref k :: rest)) w Z := by
  intro p e R s m args below meth c H locs cells slots lsA C r hP hD hS hL
  obtain ⟨h1, h2, h3, h4, h5, h6, h7, h8, h9⟩ := hl
  have hts := C.2.2.2.2.2.2.1
  refine ev_thrown (vx_runV (As := as.map (cv_ G)) (rest := rest.map (cv_ G)) ⟨C.2.1, C.2.2.1, C.2.2.2.1, C.2.2.2.2.2.1, hts⟩ (hc C.1) ⟨cb_ C r hlt h1 h2 (hts _ h3) h5 h6 h7 h8 h9, hts _ h4.1, hts _ h4.2⟩ ⟨pc_blind, co_recv hk (bs_K C.2.2.2.2.2.2.2.2.2) hP, pc_at (args := .ref k :: as) C.1 C.2.2.2.2.2.2.2.2.2 hP hD hS⟩ rfl (by rw [List.length_map]; exact hn) hL.1 (ra_map G as (.ref k :: rest)) ?_ hd (rm_fit r hb)) hS (fun H1 locs1 q ce hP1 hD1 hS1 hq hv hcl => ev_caught C pre suf hh hp hx1 hx2 hx3 hx4 hx5 (rm_after r hb) hP1 hD1 hS1 hL hq hv hcl hst hk' hc1 K)
  rw [cv_sum]
  simpa [sm_, JFrame.monitorRoom] using hm
/-- a static method with handlers -/
def slw_ (own : String) (idx : Nat) (M : MT) (n : Nat) : Prop := cw_ M ∈ gd_ ∧ cw_ M = .codeWith M.1 M.2.1 M.2.2.1 M.2.2.2.1 M.2.2.2.2 ∧ (∀ w ∈ ([.methodLink own idx M.1, .static M.1, .initialized M.1.cls] : List Cond), w ∈ gd_) ∧ M.1.cls ≠ "java/lang/invoke/MethodHandle" ∧ M.1.cls ≠ "java/lang/invoke/VarHandle" ∧ (parseMethodDescriptor M.1.desc).map (fun d => d.parameters.length) = some n ∧ M.2.2.1 ≤ 40
theorem ev_callSW {G : GX} {d b d' b' : Nat} {M M' : MT} {pc idx n : Nat} {ls : List (Option Value)} {as rest : List Value} {w w' : WS} {Z : ZT} {r0 : Option Value} (hl : slw_ M.1.cls idx M' n) (hc : Big G d' b' M' as w (.inl r0) w') (hd : decode M.2.1 pc = .ok (.invokestatic idx, 3)) (hn : as.length = n) (hlt : d' < d) (hb : b' ≤ b) (hm : sm_ rest = true)
    (K : Ev G d (b - b') M (pc + 3) ls (ps_ r0 rest) w' Z) : Ev G d b M pc ls (ra_ as rest) w Z := by
  intro p e R s m args below meth c H locs cells slots lsA C r hP hD hS hL
  obtain ⟨h1, h2, h3, h6, h7, h8, h9⟩ := hl
  have hts := C.2.2.2.2.2.2.1
  have hG : GoodIn gd_ (va_wsS M.1.cls idx M'.1 (ws_ M')) := by
    intro w hw
    unfold va_wsS at hw
    rcases List.mem_append.mp hw with hw | hw
    · exact ⟨h3 w hw, good_of_word (gd_good (h3 w hw))⟩
    · exact gd_in h1 w hw
  refine ev_back (vx_runSW (As := as.map (cv_ G)) (rest := rest.map (cv_ G)) ⟨C.2.1, C.2.2.1, C.2.2.2.1, C.2.2.2.2.2.1, hts⟩ (met_of (hc C.1)) (vx_cwSW (ws' := gd_) n hts hG (by unfold ws_; rw [h2]) rfl rfl ⟨h6, h7, h8⟩ ⟨fo_ok r.1 hlt, lo_ok r.2.1 hlt h9⟩) ⟨pc_blind, pc_at C.1 C.2.2.2.2.2.2.2.2.2 hP hD hS⟩ rfl (by rw [List.length_map]; exact hn) hL.1 (ra_map G as rest) ?_ hd (rm_fit r hb)) hS (fun H1 locs1 hP1 hD1 hS1 => ?_)
  · rw [cv_sum]
    simpa [sm_, JFrame.monitorRoom] using hm
  · rw [← ps_map]
    exact K p e R s m args below meth c H1 locs1 _ _ lsA C (rm_after r hb) hP1 hD1 hS1 hL
/-! arraycopy, Math -/
set_option maxRecDepth 20000 in
theorem cp_lo {k d n : Nat} (h : k ≤ 8) (h2 : 64 * d + 300 ≤ n) : k + (nativeFrameWords "java/lang/System" "arraycopy" 5 + 11) ≤ n := by
  have h3 : nativeFrameWords "java/lang/System" "arraycopy" 5 ≤ 100 := by decide +kernel
  omega
def al_ (own : String) (idx : Nat) : Prop := Cond.methodLink own idx arraycopyName ∈ gd_
theorem ev_copy {G : GX} {d b : Nat} {M : MT} {pc idx : Nat} {ls : List (Option Value)} {rest : List Value} {w : WS} {Z : ZT} {k0 k1 n0 n1 i j n : Nat} {x y z : Int32} (hl : al_ M.1.cls idx) (hd : decode M.2.1 pc = .ok (.invokestatic idx, 3)) (hx : x = nI i) (hy : y = nI j) (hz : z = nI n) (hk0 : k0 < 115) (hk1 : k1 < 115) (hs0 : shp k0 = .inr (0, n0)) (hs1 : shp k1 = .inr (0, n1)) (h0 : i + n ≤ n0) (h1 : j + n ≤ n1) (hm : sm_ rest = true)
    (K : Ev G d b M (pc + 3) ls rest (cs_ w k1 (va_cpy (w.1 k0) (w.1 k1) i j n)) Z) : Ev G d b M pc ls (.int z :: .int y :: .ref k1 :: .int x :: .ref k0 :: rest) w Z := by
  intro p e R s m args below meth c H locs cells slots lsA C r hP hD hS hL
  subst hx hy hz
  have hts := C.2.2.2.2.2.2.1
  have e0 := shp_lt hs0
  have e1 := shp_lt hs1
  refine va_copyi C.2.1 C.2.2.1 (C.2.2.2.1.trans hL.1.symm) C.2.2.2.2.2.1 (hts _ hl) (hts _ al_nat) (hts _ al_stat) (hts _ al_ini) (bs_K C.2.2.2.2.2.2.2.2.2) hP hD hS k0 k1 0 0 (f := w.1 k0) (g := w.1 k1) (by rw [wl_get G w hk0, ce_arr hs0]; rfl) (by rw [wl_get G w hk1, ce_arr hs1]; rfl) rfl rfl rfl (nI_pos (by omega)) (nI_pos (by omega)) (nI_pos (by omega)) (by rw [nI_clamp (by omega), nI_clamp (by omega)]; exact h0) (by rw [nI_clamp (by omega), nI_clamp (by omega)]; exact h1) (fun _ _ => rfl) (by have := r.1; omega) ?_ hd (fun H1 locs1 hP1 _ hS1 => K p e R s m args below meth c H1 locs1 cells slots lsA C r ?_ (wd_c hD rfl) hS1 hL)
  · rw [cv_sum]
    exact cp_lo (by simpa [sm_] using hm) r.2.1
  · rw [nI_clamp (by omega), nI_clamp (by omega), nI_clamp (by omega), wl_up (f := va_cpy (w.1 k0) (w.1 k1) i j n) hk1 (by rw [ce_arr hs1]; simp [ar_, cs_])] at hP1
    exact hP1
set_option maxRecDepth 20000 in
theorem ma_lo {k d n : Nat} (h : k ≤ 8) (h2 : 64 * d + 300 ≤ n) : k + 13 ≤ n := by omega
def mabs_ (own : String) (idx : Nat) : Prop := Cond.methodLink own idx Lib.Math.abs.name ∈ gd_
theorem ev_abs {G : GX} {d b : Nat} {M : MT} {pc idx : Nat} {ls : List (Option Value)} {rest : List Value} {w : WS} {Z : ZT} {x : Int32} (hl : mabs_ M.1.cls idx) (hd : decode M.2.1 pc = .ok (.invokestatic idx, 3)) (hm : sm_ rest = true)
    (K : Ev G d b M (pc + 3) ls (.int (if 0 ≤ x then x else 0 - x) :: rest) w Z) : Ev G d b M pc ls (.int x :: rest) w Z := by
  intro p e R s m args below meth c H locs cells slots lsA C r hP hD hS hL
  have hts := C.2.2.2.2.2.2.1
  refine va_mabs C.2.1 C.2.2.1 (C.2.2.2.1.trans hL.1.symm) C.2.2.2.2.2.1 (hts _ hl) (hts _ ml_abss) (hts _ ml_ini) (hts _ ml_absc) (by have := r.1; omega) ?_ (by have := r.2.2.1; omega) (by have := r.2.2.2; omega) hd (K p e R s m args below meth c H locs cells slots lsA C r hP hD hS hL)
  rw [cv_sum]
  exact ma_lo (by simpa [sm_] using hm) r.2.1
def mmax_ (own : String) (idx : Nat) : Prop := Cond.methodLink own idx Lib.Math.max.name ∈ gd_
theorem ev_max {G : GX} {d b : Nat} {M : MT} {pc idx : Nat} {ls : List (Option Value)} {rest : List Value} {w : WS} {Z : ZT} {x y : Int32} (hl : mmax_ M.1.cls idx) (hd : decode M.2.1 pc = .ok (.invokestatic idx, 3)) (hm : sm_ rest = true)
    (K : Ev G d b M (pc + 3) ls (.int (if x < y then y else x) :: rest) w Z) : Ev G d b M pc ls (.int y :: .int x :: rest) w Z := by
  intro p e R s m args below meth c H locs cells slots lsA C r hP hD hS hL
  have hts := C.2.2.2.2.2.2.1
  refine va_mmax C.2.1 C.2.2.1 (C.2.2.2.1.trans hL.1.symm) C.2.2.2.2.2.1 (hts _ hl) (hts _ ml_maxs) (hts _ ml_ini) (hts _ ml_maxc) (by have := r.1; omega) ?_ (by have := r.2.2.1; omega) (by have := r.2.2.2; omega) hd (K p e R s m args below meth c H locs cells slots lsA C r hP hD hS hL)
  rw [cv_sum]
  exact ma_lo (by simpa [sm_] using hm) r.2.1
def mmin_ (own : String) (idx : Nat) : Prop := Cond.methodLink own idx Lib.Math.min.name ∈ gd_
theorem ev_min {G : GX} {d b : Nat} {M : MT} {pc idx : Nat} {ls : List (Option Value)} {rest : List Value} {w : WS} {Z : ZT} {x y : Int32} (hl : mmin_ M.1.cls idx) (hd : decode M.2.1 pc = .ok (.invokestatic idx, 3)) (hm : sm_ rest = true)
    (K : Ev G d b M (pc + 3) ls (.int (if y < x then y else x) :: rest) w Z) : Ev G d b M pc ls (.int y :: .int x :: rest) w Z := by
  intro p e R s m args below meth c H locs cells slots lsA C r hP hD hS hL
  have hts := C.2.2.2.2.2.2.1
  refine va_mmin C.2.1 C.2.2.1 (C.2.2.2.1.trans hL.1.symm) C.2.2.2.2.2.1 (hts _ hl) (hts _ ml_mins) (hts _ ml_ini) (hts _ ml_minc) (by have := r.1; omega) ?_ (by have := r.2.2.1; omega) (by have := r.2.2.2; omega) hd (K p e R s m args below meth c H locs cells slots lsA C r hP hD hS hL)
  rw [cv_sum]
  exact ma_lo (by simpa [sm_] using hm) r.2.1
theorem ev_ldcS {G : GX} {d b : Nat} {M : MT} {pc : Nat} {ls : List (Option Value)} {st : List Value} {w : WS} {Z : ZT} {k : Nat} {tx : String} (i : Nat) (hi : sK[i]? = some (k, tx)) (hM : M.1.cls = "MapScalesLaw") (hd : decode M.2.1 pc = .ok (.ldc k, 2))
    (K : Ev G d b M (pc + 2) ls (.ref (2000 + i) :: st) w Z) : Ev G d b M pc ls st w Z := by
  intro p e R s m args below meth c H locs cells slots lsA C r hP hD hS hL
  have hB := C.2.2.2.2.2.2.2.2.2.2.2.2.2.2.2.2.1 i k tx hi
  exact va_ldcS C.2.1 C.2.2.1 (by rw [← hM]; exact C.2.2.2.2.2.1) hB hd (K p e R s m args below meth c H locs cells slots lsA C r hP hD hS hL)
