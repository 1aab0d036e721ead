/-! a NoSuchElementException thrown -/
abbrev nsE : String := "java/util/NoSuchElementException"
abbrev nsC : ByteArray := prog_41_method_4_code
theorem ns0 : decode nsC 0 = .ok (.aload_n 0, 1) := by decide +kernel
theorem ns1 : decode nsC 1 = .ok (.aload_n 1, 1) := by decide +kernel
theorem ns2 : decode nsC 2 = .ok (.invokespecial 13, 3) := by decide +kernel
theorem ns5 : decode nsC 5 = .ok (.return_, 1) := by decide +kernel
def tn_ (own : String) (ik is ic : Nat) (text : String) : Prop := Bundle.fit nsE = true ∧ Cond.classLink own ik nsE ∈ gd_ ∧ Cond.initialized nsE ∈ gd_ ∧ Cond.stringRef own is text ∈ tables_1 ∧ ∀ w ∈ nx_atS own ic nsE 13 nsC exN, (nw_ w = true ∧ w ∈ tables_1) ∨ w ∈ gd_
theorem ev_throwN {G : GX} {d b : Nat} {M : MT} {pc ik is ic : Nat} {ls : List (Option Value)} {st : List Value} {w : WS} {text : String} (ht : tn_ M.1.cls ik is ic text)
    (d0 : decode M.2.1 pc = .ok (.new ik, 3)) (d3 : decode M.2.1 (pc + 3) = .ok (.dup, 1)) (d4 : decode M.2.1 (pc + 4) = .ok (.ldc is, 2)) (d6 : decode M.2.1 (pc + 6) = .ok (.invokespecial ic, 3)) (d9 : decode M.2.1 (pc + 9) = .ok (.athrow, 1)) (hb : 1 ≤ b) (hh : M.2.2.2.2 = []) (hm : sm_ st = true) : Ev G d b M pc ls st w (zu_ G (.inr nsE) w) := by
  intro p e R s m args below meth c H locs cells slots lsA C r hP hD hS hL
  have hB := C.2.2.2.2.2.2.2.2.2
  have htb := C.2.2.2.2.2.2.2.2.1
  have hts := C.2.2.2.2.2.2.1
  rw [hh] at htb
  obtain ⟨sa, hsa⟩ := hB.2.2.2.2.2.2.1 _ _ _ ht.2.2.2.1
  obtain ⟨r1, r2, r3, r4⟩ := r
  refine nx_throwS ns0 ns1 ns2 ns5 C.2.1 C.2.2.1 C.1.1 C.2.2.2.2.2.1 ht.1 ex_names (hts _ ht.2.1) (hts _ ht.2.2.1) hsa (ow_at hB hts ht.2.2.2.2) (ow_ot ht.2.1 ht.2.2.1 ht.2.2.2.2) hB.2.2.1 hB.2.2.2.1 hS (hL.1.trans C.2.2.2.1.symm) d0 d3 d4 d6 d9 (fun x hx => by rw [htb] at hx; cases hx) (by show 2 + 3 < R.frames; omega) ?_ (by omega) (by omega) C.2.2.2.2.2.2.2.1.1 (fun t h1 h2 h3 => ⟨rfl, ⟨hP.kept (fun k q hk => h3 _ (vx_lt hP hk)), hD⟩, Nat.le_trans hS.1 h2, fun q h4 h5 => (h3 q (Nat.lt_of_lt_of_le h4 hS.1)).trans (hS.2.1 q h4 h5)⟩) hS.2.2 (by omega) (by omega)
  rw [cv_sum]
  exact th_lo (by simpa [sm_] using hm) r2
theorem ev_throwWN {G : GX} {d b : Nat} {M : MT} {pc ik is ic : Nat} {ls : List (Option Value)} {st : List Value} {w : WS} {text : String} (ht : tn_ M.1.cls ik is ic text)
    (d0 : decode M.2.1 pc = .ok (.new ik, 3)) (d3 : decode M.2.1 (pc + 3) = .ok (.dup, 1)) (d4 : decode M.2.1 (pc + 4) = .ok (.ldc_w is, 3)) (d6 : decode M.2.1 (pc + 7) = .ok (.invokespecial ic, 3)) (d9 : decode M.2.1 (pc + 10) = .ok (.athrow, 1)) (hb : 1 ≤ b) (hh : M.2.2.2.2 = []) (hm : sm_ st = true) : Ev G d b M pc ls st w (zu_ G (.inr nsE) w) := by
  intro p e R s m args below meth c H locs cells slots lsA C r hP hD hS hL
  have hB := C.2.2.2.2.2.2.2.2.2
  have htb := C.2.2.2.2.2.2.2.2.1
  have hts := C.2.2.2.2.2.2.1
  rw [hh] at htb
  obtain ⟨sa, hsa⟩ := hB.2.2.2.2.2.2.1 _ _ _ ht.2.2.2.1
  obtain ⟨r1, r2, r3, r4⟩ := r
  refine nx_throwSW ns0 ns1 ns2 ns5 C.2.1 C.2.2.1 C.1.1 C.2.2.2.2.2.1 ht.1 ex_names (hts _ ht.2.1) (hts _ ht.2.2.1) hsa (ow_at hB hts ht.2.2.2.2) (ow_ot ht.2.1 ht.2.2.1 ht.2.2.2.2) hB.2.2.1 hB.2.2.2.1 hS (hL.1.trans C.2.2.2.1.symm) d0 d3 d4 d6 d9 (fun x hx => by rw [htb] at hx; cases hx) (by show 2 + 3 < R.frames; omega) ?_ (by omega) (by omega) C.2.2.2.2.2.2.2.1.1 (fun t h1 h2 h3 => ⟨rfl, ⟨hP.kept (fun k q hk => h3 _ (vx_lt hP hk)), hD⟩, Nat.le_trans hS.1 h2, fun q h4 h5 => (h3 q (Nat.lt_of_lt_of_le h4 hS.1)).trans (hS.2.1 q h4 h5)⟩) hS.2.2 (by omega) (by omega)
  rw [cv_sum]
  exact th_lo (by simpa [sm_] using hm) r2
