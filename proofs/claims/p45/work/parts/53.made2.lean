/-! objects made: fields, arrays, new objects, calls -/
theorem bsK {G : GX} {s : State} (h : bc_ G s s.heap) : va_K (gD G) vwCl (tys_ G) s := h.1.1
section
variable {G : GX} {d b : Nat} {M : MT} {pc : Nat} {L : List (Nat × Value)} {st : List Value} {pre r : va_W} {Z : ZT} {q ci : Nat} {fs : List Value}
theorem kc_putF {i j : Nat} {v : Value} {ty : FieldType} (hf : fl_ M.1.cls i ci j true ty) (hin : M.1.name = "<init>") (hdecl : ∀ C T N, vwCl[ci]? = some (C, T, N) → (T j).1 = M.1.cls) (hd : decode M.2.1 pc = .ok (.putfield i, 3)) (hn : narrow ty v = v) (hfit : fits ty v = true) (hj : j < fs.length) (K : Ec G d b M (pc + 3) L st (pre ++ (q, .inr (ci, fs.set j v)) :: r) Z) : Ec G d b M pc L (v :: .ref q :: st) (pre ++ (q, .inr (ci, fs)) :: r) Z := by
  intro p e R s m args below meth c H locs cells slots lsA C rr hP hD hS hL
  obtain ⟨C1, T1, N, ty0, h1, h2, h3, h4, h5, h6, h7, h8⟩ := hf
  exact va_putF C.2.1 C.2.2.1 C.2.2.2.2.2.2.1 h3 ty0 h5 h6 C.2.2.2.2.2.1 (bsK C.2.2.2.2.2.2.2.2.2) hP hD hS pre.length mid_at h1 j h2 (C.2.2.2.2.2.2.1 _ h4) (fun _ h => h) h7 (C.2.2.2.2.2.2.2.2.1.trans hin) (hdecl _ _ _ h1) h8 hn hfit hj hd (fun H1 locs1 hP1 hD1 hS1 => by
    rw [mid_set] at hP1 hD1
    exact K p e R s m args below meth c H1 locs1 cells slots lsA C rr hP1 hD1 hS1 hL)
theorem kc_put {i j : Nat} {v : Value} {ty : FieldType} (hf : fl_ M.1.cls i ci j false ty) (hd : decode M.2.1 pc = .ok (.putfield i, 3)) (hn : narrow ty v = v) (hfit : fits ty v = true) (hj : j < fs.length) (K : Ec G d b M (pc + 3) L st (pre ++ (q, .inr (ci, fs.set j v)) :: r) Z) : Ec G d b M pc L (v :: .ref q :: st) (pre ++ (q, .inr (ci, fs)) :: r) Z := by
  intro p e R s m args below meth c H locs cells slots lsA C rr hP hD hS hL
  obtain ⟨C1, T1, N, ty0, h1, h2, h3, h4, h5, h6, h7, h8⟩ := hf
  exact va_put C.2.1 C.2.2.1 C.2.2.2.2.2.2.1 h3 ty0 h5 h6 C.2.2.2.2.2.1 (bsK C.2.2.2.2.2.2.2.2.2) hP hD hS pre.length mid_at h1 j h2 (C.2.2.2.2.2.2.1 _ h4) (fun _ h => h) h7 h8 hn hfit hj hd (fun H1 locs1 hP1 hD1 hS1 => by
    rw [mid_set] at hP1 hD1
    exact K p e R s m args below meth c H1 locs1 cells slots lsA C rr hP1 hD1 hS1 hL)
theorem kc_get {i j : Nat} {v : Value} {fin : Bool} {ty : FieldType} (hf : fl_ M.1.cls i ci j fin ty) (hd : decode M.2.1 pc = .ok (.getfield i, 3)) (hv : fs[j]? = some v) (K : Ec G d b M (pc + 3) L (v :: st) (pre ++ (q, .inr (ci, fs)) :: r) Z) : Ec G d b M pc L (.ref q :: st) (pre ++ (q, .inr (ci, fs)) :: r) Z := by
  intro p e R s m args below meth c H locs cells slots lsA C rr hP hD hS hL
  obtain ⟨C1, T1, N, ty0, h1, h2, h3, h4, h5, h6, h7, h8⟩ := hf
  exact va_get C.2.1 C.2.2.1 C.2.2.2.2.2.2.1 h3 C.2.2.2.2.2.1 (bsK C.2.2.2.2.2.2.2.2.2) hP pre.length mid_at h1 j h2 (C.2.2.2.2.2.2.1 _ h4) (fun _ h => h) hv hd (K p e R s m args below meth c H locs cells slots lsA C rr hP hD hS hL)
end
section
variable {G : GX} {d b : Nat} {M : MT} {pc : Nat} {L : List (Nat × Value)} {st : List Value} {ws : va_W} {Z : ZT}
/-- a new array of numbers of type t of the list -/
theorem kc_newa {at_ : ArrayType} {t : Nat} {ty : FieldType} {n : Nat} {zz : (Nat → Int32) ⊕ (Nat → Int64) ⊕ (Nat → UInt32) ⊕ (Nat → UInt64) ⊕ (Nat → Option Nat)} (harr : Cond.arrayClass (newarray.typeOf at_) ∈ gd_) (hty : newarray.typeOf at_ = ty) (htt : (tys_ G)[t]? = some (gC G t, ty)) (hra : ∀ (U : State) (c1 c2 : ClassId), va_RA U c1 ty → va_RA U c2 ty → c1 = c2) (ha : ∀ cA : ClassId, vp_cell cA (n, zz) = arrV cA n (fun _ => defaultValue ty)) (hcb : componentBytes ty ≤ 8) (hn : n ≤ 1000) (hb : n + 1 ≤ b) (hd : decode M.2.1 pc = .ok (.newarray at_, 2))
    (K : ∀ a, Ec G d (b - (n + 1)) M (pc + 2) L (.ref a :: st) (ws ++ [(a, .inl (gC G t, n, zz))]) Z) : Ec G d b M pc L (.int (nI n) :: st) ws Z := by
  intro p e R s m args below meth c H locs cells slots lsA C rr hP hD hS hL
  obtain ⟨r1, r2, r3, r4⟩ := rr
  refine va_newa (atype := at_) C.2.1 C.2.2.1 (C.2.2.2.2.2.2.1 _ harr) hty (bsK C.2.2.2.2.2.2.2.2.2) hP hD hS (fr_up C.1) (N' := n) (a0 := (n, zz)) ha (nI_pos (by omega)) (nI_clamp (by omega)) (Nat.le_trans (Nat.mul_le_mul hn hcb) (by decide)) (by omega) (by omega) hd (fun a cA H1 hK1 hP1 hD1 hS1 => ?_)
  have e1 := (hK1.2 t (gC G t, ty) (by rw [List.getElem?_append_left (List.getElem?_eq_some_iff.mp htt).1]; exact htt)).2
  have e2 := (hK1.2 6 (cA, ty) (by rfl)).2
  cases hra s _ _ e1 e2
  have q := K a p e R s m args below meth c H1 locs (cells + (n + 1)) (slots + 16 * (n + 1)) lsA C ⟨r1, r2, by omega, by omega⟩ hP1 hD1 hS1 hL
  exact W.widen (by omega) (by omega) q
theorem kc_newq {i n t : Nat} (hcl : Cond.classLink M.1.cls i "MapScales$Chart" ∈ gd_) (htt : (tys_ G)[t]? = some (gC G t, .object "MapScales$Chart")) (hn : n ≤ 1000) (hb : n + 1 ≤ b) (hd : decode M.2.1 pc = .ok (.anewarray i, 3))
    (K : ∀ a, Ec G d (b - (n + 1)) M (pc + 3) L (.ref a :: st) (ws ++ [(a, .inl (gC G t, n, .inr (.inr (.inr (.inr (fun _ => none))))))]) Z) : Ec G d b M pc L (.int (nI n) :: st) ws Z := by
  intro p e R s m args below meth c H locs cells slots lsA C rr hP hD hS hL
  obtain ⟨r1, r2, r3, r4⟩ := rr
  refine va_newq C.2.1 C.2.2.1 C.2.2.2.2.2.1 (C.2.2.2.2.2.2.1 _ hcl) C.2.2.2.2.2.2.2.2.2.2 (bsK C.2.2.2.2.2.2.2.2.2) hP hD hS (fr_up C.1) (N' := n) (nI_pos (by omega)) (nI_clamp (by omega)) (by omega) (by omega) (by omega) hd (fun a cA H1 hK1 hP1 hD1 hS1 => ?_)
  have e1 := (hK1.2 t (gC G t, .object "MapScales$Chart") (by rw [List.getElem?_append_left (List.getElem?_eq_some_iff.mp htt).1]; exact htt)).2
  have e2 := (hK1.2 6 (cA, .object "MapScales$Chart") (by rfl)).2
  obtain ⟨kA, comp, a1, a2, a3, a4⟩ := e1
  obtain ⟨kB, comp2, b1, b2, b3, b4⟩ := e2
  cases a4.symm.trans b4
  have q := K a p e R s m args below meth c H1 locs (cells + (n + 1)) (slots + 16 * (n + 1)) lsA C ⟨r1, r2, by omega, by omega⟩ hP1 hD1 hS1 hL
  exact W.widen (by omega) (by omega) q
theorem kc_new {idx ci : Nat} {fs : List Value} (hk : mk_ M.1.cls idx ci fs) (hb : 4 ≤ b) (hd : decode M.2.1 pc = .ok (.new idx, 3)) (K : ∀ a, Ec G d (b - 4) M (pc + 3) L (.ref a :: st) (ws ++ [(a, .inr (ci, fs))]) Z) : Ec G d b M pc L st ws Z := by
  intro p e R s m args below meth c H locs cells slots lsA C rr hP hD hS hL
  obtain ⟨r1, r2, r3, r4⟩ := rr
  obtain ⟨C0, T, N, ty, h1, h2, h3, h4, h5, h6, h7, h8⟩ := hk
  have hts := C.2.2.2.2.2.2.1
  refine va_new C.2.1 C.2.2.1 hts h2 ty h3 C.2.2.2.2.2.1 (hts _ h4) (hts _ h5) (hts _ h6) (bsK C.2.2.2.2.2.2.2.2.2) hP hD hS (fr_up C.1) h1 h7 (by omega) (by omega) hd (fun a H1 hP1 hD1 hS1 => ?_)
  have q := K a p e R s m args below meth c H1 locs (cells + 4) (slots + 16 * 4) lsA C ⟨r1, r2, by omega, by omega⟩ hP1 hD1 hS1 hL
  exact W.widen (by omega) (by omega) q
theorem kc_alen {a k t n : Nat} {cA : ClassId} {zz : (Nat → Int32) ⊕ (Nat → Int64) ⊕ (Nat → UInt32) ⊕ (Nat → UInt64) ⊕ (Nat → Option Nat)} {ty : FieldType} (ha : ws[k]? = some (a, .inl (cA, n, zz))) (ht : (tys_ G)[t]? = some (cA, ty)) (hd : decode M.2.1 pc = .ok (.arraylength, 1)) (K : Ec G d b M (pc + 1) L (.int (nI n) :: st) ws Z) : Ec G d b M pc L (.ref a :: st) ws Z := by
  intro p e R s m args below meth c H locs cells slots lsA C rr hP hD hS hL
  exact va_alen C.2.1 C.2.2.1 (bsK C.2.2.2.2.2.2.2.2.2) hP k t ha ht rfl hd (K p e R s m args below meth c H locs cells slots lsA C rr hP hD hS hL)
theorem kc_iast {a k t n j : Nat} {cA : ClassId} {f : Nat → Int32} {x y : Int32} (ha : ws[k]? = some (a, .inl (cA, n, .inl f))) (ht : (tys_ G)[t]? = some (cA, .int)) (hx : x = nI j) (hj : j < n) (hn : n < 2000) (hd : decode M.2.1 pc = .ok (.iastore, 1)) (K : Ec G d b M (pc + 1) L st (ws.set k (a, .inl (cA, n, .inl (upd f j y)))) Z) : Ec G d b M pc L (.int y :: .int x :: .ref a :: st) ws Z := by
  intro p e R s m args below meth c H locs cells slots lsA C rr hP hD hS hL
  subst hx
  refine va_iast C.2.1 C.2.2.1 (bsK C.2.2.2.2.2.2.2.2.2) hP hD hS k t ha ht (vp_in_nI hj (by omega)) hd (fun H1 locs1 hP1 hD1 hS1 => ?_)
  rw [nI_clamp (by omega)] at hP1 hD1
  exact K p e R s m args below meth c H1 locs1 cells slots lsA C rr hP1 hD1 hS1 hL
theorem kc_aast {a k t qk ci v n j : Nat} {cA : ClassId} {f : Nat → Option Nat} {vs : List Value} {C0 : vw_C} {x : Int32} (ha : ws[k]? = some (a, .inl (cA, n, .inr (.inr (.inr (.inr f)))))) (ht : (tys_ G)[t]? = some (cA, .object C0.1)) (hv : ws[qk]? = some (v, .inr (ci, vs))) (hc : vwCl[ci]? = some C0) (hx : x = nI j) (hj : j < n) (hn : n < 2000) (hd : decode M.2.1 pc = .ok (.aastore, 1)) (K : Ec G d b M (pc + 1) L st (ws.set k (a, .inl (cA, n, .inr (.inr (.inr (.inr (va_up f j (some v)))))))) Z) : Ec G d b M pc L (.ref v :: .int x :: .ref a :: st) ws Z := by
  intro p e R s m args below meth c H locs cells slots lsA C rr hP hD hS hL
  subst hx
  refine va_astq C.2.1 C.2.2.1 (bsK C.2.2.2.2.2.2.2.2.2) hP hD hS k t qk ci ha ht hv hc (vp_in_nI hj (by omega)) hd (fun H1 locs1 hP1 hD1 hS1 => ?_)
  rw [nI_clamp (by omega)] at hP1 hD1
  exact K p e R s m args below meth c H1 locs1 cells slots lsA C rr hP1 hD1 hS1 hL
/-- back from a constructor or a method that makes -/
theorem kc_back {p : Program} {e : Env} {R : Room} {s : State} {m : MethodId} {args : Array Value} {below : List Frame} {meth : Method} {c : Code} {H : Heap} {locs : List Loc} {cells slots mc ms : Nat} {lsA : Array Slot} {st0 rest as : List Value} {Q : State → Prop} {post : va_W → Prop}
    (hr : va_Run p (gL G) e R s m args below meth c H locs cells slots mc ms (F0 m pc lsA st0) rest (qcC G post as.toArray) (fr_ G)) (hS : va_S (fr_ G) s.heap H locs)
    (kk : ∀ (H1 : Heap) (locs1 : List Loc) (ws' : va_W), post ws' → va_P (gD G) vwCl ws' H1 → va_D (fr_ G) ws' → va_S (fr_ G) s.heap H1 locs1 → W p (gL G) e R s m args below meth c H1 locs1 (cells + mc) (slots + ms) Q (F0 m (pc + 3) lsA rest)) : W p (gL G) e R s m args below meth c H locs cells slots Q (F0 m pc lsA st0) := by
  intro T hT X
  obtain ⟨v, st₀, t, T', L1, h0, X', hL, e1, e2, ⟨⟨hv, ws', hpo, hp, hdd⟩, hz, hk⟩, stp⟩ := hr T hT X
  cases hv
  rw [h0] at hz hk
  obtain ⟨t2, a1, b1⟩ := kk T'.heap (locs ++ L1) ws' hpo (by rw [e1]; exact hp) hdd
    ⟨Nat.le_trans hS.1 (by rw [e1]; exact hz), fun q h1 h2 => by rw [e1, hk q (Nat.lt_of_lt_of_le h1 hS.1) h2]; exact hS.2.1 q h1 h2, fun q hq => by
      rcases List.mem_append.mp hq with h | h
      · exact hS.2.2 q h
      · exact hL q h⟩ T' rfl X'
  exact ⟨t2, stp t2 a1, b1⟩
/-- a constructor called -/
theorem kc_init {d' b' idx n q : Nat} {M' : MT} {as : List Value} {post : va_W → Prop} (hl : il_ M.1.cls idx M' n) (hG : gA G 1000 < gZ G) (hc : BigC G d' b' M' (.ref q :: as) ws post) (hd : decode M.2.1 pc = .ok (.invokespecial idx, 3)) (hn : as.length = n) (hlt : d' < d) (hb : b' ≤ b) (hm : sm_ st = true)
    (K : ∀ ws', post ws' → Ec G d (b - b') M (pc + 3) L st ws' Z) : Ec G d b M pc L (as.reverse ++ .ref q :: st) ws Z := by
  intro p e R s m args below meth c H locs cells slots lsA C r hP hD hS hL
  obtain ⟨h1, h2, h3, h4, h5, h6, h7, h8, h9, h10, h11⟩ := hl
  have hts := C.2.2.2.2.2.2.1
  have hm : (st.map fun v => v.category).sum ≤ 8 := of_decide_eq_true hm
  refine kc_back (va_runI (As := as) (rest := st) ⟨C.2.1, C.2.2.1, C.2.2.2.1, C.2.2.2.2.2.1, hts⟩ (hc hG hD) ⟨callB_of (bytes := M'.2.1) (ws' := gd_) n hts (gd_in h1) (by unfold ws_; rw [h2, h11]) rfl rfl (hts _ h5) (hts _ h3) ⟨h6, h7, h8⟩ ⟨fo_ok r.1 hlt, lo_ok r.2.1 hlt h9⟩, h10, hts _ h4⟩ ⟨pcC_blind, fun U hU hW => ⟨rfl, ⟨by rw [hU]; exact hP, by rw [hU]; exact Nat.le_trans C.1 hS.1⟩, bs_mv C.2.2.2.2.2.2.2.2.2 hW hS hU hG⟩⟩ rfl hn hL.1 rfl ?_ hd (rm_fit r hb)) hS (fun H1 locs1 ws' hpo hP1 hD1 hS1 => ?_)
  · simp only [JFrame.monitorRoom]
    simp
    omega
  · exact K ws' hpo p e R s m args below meth c H1 locs1 _ _ lsA C (rm_after r hb) hP1 hD1 hS1 hL
theorem kc_call {d' b' idx n : Nat} {M' : MT} {as : List Value} {post : va_W → Prop} (hl : sl_ M.1.cls idx M' n) (hG : gA G 1000 < gZ G) (hc : BigC G d' b' M' as ws post) (hd : decode M.2.1 pc = .ok (.invokestatic idx, 3)) (hn : as.length = n) (hlt : d' < d) (hb : b' ≤ b) (hm : sm_ st = true)
    (K : ∀ ws', post ws' → Ec G d (b - b') M (pc + 3) L st ws' Z) : Ec G d b M pc L (as.reverse ++ st) ws Z := by
  intro p e R s m args below meth c H locs cells slots lsA C r hP hD hS hL
  obtain ⟨h1, h2, h3, h4, h5, h6, h7, h8, h9⟩ := hl
  have hts := C.2.2.2.2.2.2.1
  have hm : (st.map fun v => v.category).sum ≤ 8 := of_decide_eq_true hm
  refine kc_back (va_runS (As := as) (rest := st) ⟨C.2.1, C.2.2.1, C.2.2.2.1, C.2.2.2.2.2.1, hts⟩ (hc hG hD) ⟨callB_of (ws' := gd_) n hts (gd_in h1) (by unfold ws_; rw [h2]) rfl rfl (hts _ h5) (hts _ h3) ⟨h6, h7, h8⟩ ⟨fo_ok r.1 hlt, lo_ok r.2.1 hlt h9⟩, hts _ h4⟩ ⟨pcC_blind, fun U hU hW => ⟨rfl, ⟨by rw [hU]; exact hP, by rw [hU]; exact Nat.le_trans C.1 hS.1⟩, bs_mv C.2.2.2.2.2.2.2.2.2 hW hS hU hG⟩⟩ rfl hn hL.1 rfl ?_ hd (rm_fit r hb)) hS (fun H1 locs1 ws' hpo hP1 hD1 hS1 => ?_)
  · simp only [JFrame.monitorRoom]
    simp
    omega
  · exact K ws' hpo p e R s m args below meth c H1 locs1 _ _ lsA C (rm_after r hb) hP1 hD1 hS1 hL
end
