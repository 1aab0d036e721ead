/-! the tail: cells made since, named by 10000 + their address -/
theorem ga_ {G : GX} (h : ok_G G) (a : Nat) : gA G (10000 + a) = a := h.2.2.2.2 a
abbrev dy (a : Nat) : Value := .ref (10000 + a)
theorem cv_dy {G : GX} (h : ok_G G) (a : Nat) : cv_ G (dy a) = .ref a := by
  show Value.ref (gA G (10000 + a)) = .ref a
  rw [ga_ h]
theorem wl_ts (G : GX) (w : WS) (i : Nat) (e : Nat × va_E) : (wl_ G w).set (115 + i) e = wl_ G (w.1, w.2.set i e) := by
  unfold wl_
  rw [List.set_append_right _ _ (by rw [wl0_len]; omega), wl0_len, show 115 + i - 115 = i by omega]
  rfl
theorem wl_ta (G : GX) (w : WS) (e : Nat × va_E) : wl_ G w ++ [e] = wl_ G (w.1, w.2 ++ [e]) := by
  unfold wl_
  rw [List.append_assoc]
  rfl
theorem vd_iff {A : Nat → Prop} {ws : va_W} : va_D A ws ↔ (ws.map Prod.fst).Nodup ∧ ∀ q ∈ ws, A q.1 := by
  constructor
  · intro h
    refine ⟨?_, fun q hq => ?_⟩
    · unfold List.Nodup
      rw [List.pairwise_iff_getElem]
      intro i j hi hj hij
      rw [List.getElem_map, List.getElem_map]
      intro e
      have := h.1 i j _ _ (List.getElem?_eq_getElem (by simpa using hi)) (List.getElem?_eq_getElem (by simpa using hj)) e
      omega
    · obtain ⟨k, hk⟩ := List.mem_iff_getElem?.mp hq
      exact h.2 k q hk
  · intro h
    refine ⟨fun i j p q hi hj hpq => ?_, fun k q hk => h.2 q (List.mem_of_getElem? hk)⟩
    obtain ⟨hn, -⟩ := h
    unfold List.Nodup at hn
    rw [List.pairwise_iff_getElem] at hn
    obtain ⟨hi1, hi2⟩ := List.getElem?_eq_some_iff.mp hi
    obtain ⟨hj1, hj2⟩ := List.getElem?_eq_some_iff.mp hj
    rcases Nat.lt_trichotomy i j with h1 | h1 | h1
    · refine absurd ?_ (hn i j (by simpa using hi1) (by simpa using hj1) h1)
      rw [List.getElem_map, List.getElem_map, hi2, hj2]
      exact hpq
    · exact h1
    · refine absurd ?_ (hn j i (by simpa using hj1) (by simpa using hi1) h1)
      rw [List.getElem_map, List.getElem_map, hi2, hj2]
      exact hpq.symm
theorem vp_mem {D : va_G} {cl : List vw_C} {ws ws' : va_W} {H : Heap} (h : va_P D cl ws H) (hm : ∀ q ∈ ws', q ∈ ws) : va_P D cl ws' H := by
  intro k q hk
  obtain ⟨k2, hk2⟩ := List.mem_iff_getElem?.mp (hm q (List.mem_of_getElem? hk))
  exact h k2 q hk2
theorem wl_mem {G : GX} {w : WS} {T' : va_W} (hm : ∀ q ∈ T', q ∈ w.2) : ∀ q ∈ wl_ G (w.1, T'), q ∈ wl_ G w := by
  intro q hq
  rcases List.mem_append.mp hq with h | h
  · exact List.mem_append_left _ h
  · exact List.mem_append_right _ (hm q h)
section
variable {G : GX} {d b : Nat} {M : MT} {pc : Nat} {ls : List (Option Value)} {st : List Value} {w : WS} {Z : ZT}
/-- cells forgotten -/
theorem ev_tl {T' : va_W} (hs : T'.Sublist w.2) (K : Ev G d b M pc ls st (w.1, T') Z) : Ev G d b M pc ls st w Z := by
  intro p e R s m args below meth c H locs cells slots lsA C r hP hD hS hL
  refine K p e R s m args below meth c H locs cells slots lsA C r (vp_mem hP (wl_mem fun q hq => hs.subset hq)) ?_ hS hL
  obtain ⟨h1, h2⟩ := vd_iff.mp hD
  refine vd_iff.mpr ⟨List.Nodup.sublist (List.Sublist.map _ (List.Sublist.append (List.Sublist.refl (wl0 G w)) hs)) h1, fun q hq => h2 q (wl_mem (fun q hq => hs.subset hq) q hq)⟩
theorem ev_tp {T' : va_W} (hs : T'.Perm w.2) (K : Ev G d b M pc ls st (w.1, T') Z) : Ev G d b M pc ls st w Z := by
  intro p e R s m args below meth c H locs cells slots lsA C r hP hD hS hL
  refine K p e R s m args below meth c H locs cells slots lsA C r (vp_mem hP (wl_mem fun q hq => hs.subset hq)) ?_ hS hL
  obtain ⟨h1, h2⟩ := vd_iff.mp hD
  refine vd_iff.mpr ⟨(List.Perm.nodup_iff (List.Perm.map _ (List.Perm.append_left (wl0 G w) hs))).mpr h1, fun q hq => h2 q (wl_mem (fun q hq => hs.subset hq) q hq)⟩
theorem ev_ialoadT {a i n j : Nat} {t : Nat} {f : Nat → Int32} {x : Int32} (hi : w.2[i]? = some (a, .inl (gC G 0, n, .inl f))) (hd : decode M.2.1 pc = .ok (.iaload, 1)) (hx : x = nI j) (hj : j < n) (hn : n ≤ 1000)
    (K : Ev G d b M (pc + 1) ls (.int (f j) :: st) w Z) : Ev G d b M pc ls (.int x :: dy a :: st) w Z := by
  intro p e R s m args below meth c H locs cells slots lsA C r hP hD hS hL
  subst hx
  have e1 := cv_dy C.1 a
  show W p (gL G) e R s m args below meth c H locs cells slots _ (F0 m pc lsA (.int (nI j) :: cv_ G (dy a) :: st.map (cv_ G)))
  rw [e1]
  refine va_iald C.2.1 C.2.2.1 (bs_K C.2.2.2.2.2.2.2.2.2) hP (115 + i) 0 (f := f) (by rw [wl_tl]; exact hi) rfl (vp_in_nI hj (by omega)) hd ?_
  rw [nI_clamp (by omega)]
  exact (K p e R s m args below meth c H locs cells slots lsA C r hP hD hS hL)
theorem ev_iastoreT {a i n j : Nat} {f : Nat → Int32} {x y : Int32} (hi : w.2[i]? = some (a, .inl (gC G 0, n, .inl f))) (hd : decode M.2.1 pc = .ok (.iastore, 1)) (hx : x = nI j) (hj : j < n) (hn : n ≤ 1000)
    {T2 : va_W} (hw : w.2.set i (a, .inl (gC G 0, n, .inl (upd f j y))) = T2) (K : Ev G d b M (pc + 1) ls st (w.1, T2) Z) : Ev G d b M pc ls (.int y :: .int x :: dy a :: st) w Z := by
  intro p e R s m args below meth c H locs cells slots lsA C r hP hD hS hL
  subst hx
  have e1 := cv_dy C.1 a
  show W p (gL G) e R s m args below meth c H locs cells slots _ (F0 m pc lsA (.int y :: .int (nI j) :: cv_ G (dy a) :: st.map (cv_ G)))
  rw [e1]
  refine va_iast C.2.1 C.2.2.1 (bs_K C.2.2.2.2.2.2.2.2.2) hP hD hS (115 + i) 0 (f := f) (by rw [wl_tl]; exact hi) rfl (vp_in_nI hj (by omega)) hd (fun H1 locs1 hP1 hD1 hS1 => ?_)
  rw [nI_clamp (by omega), wl_ts, hw] at hP1 hD1
  exact K p e R s m args below meth c H1 locs1 cells slots lsA C r hP1 hD1 hS1 hL
theorem ev_laloadT {a i n j : Nat} {f : Nat → Int64} {x : Int32} (hi : w.2[i]? = some (a, .inl (gC G 3, n, .inr (.inl f)))) (hd : decode M.2.1 pc = .ok (.laload, 1)) (hx : x = nI j) (hj : j < n) (hn : n ≤ 1000)
    (K : Ev G d b M (pc + 1) ls (.long (f j) :: st) w Z) : Ev G d b M pc ls (.int x :: dy a :: st) w Z := by
  intro p e R s m args below meth c H locs cells slots lsA C r hP hD hS hL
  subst hx
  have e1 := cv_dy C.1 a
  show W p (gL G) e R s m args below meth c H locs cells slots _ (F0 m pc lsA (.int (nI j) :: cv_ G (dy a) :: st.map (cv_ G)))
  rw [e1]
  refine va_lald C.2.1 C.2.2.1 (bs_K C.2.2.2.2.2.2.2.2.2) hP (115 + i) 3 (f := f) (by rw [wl_tl]; exact hi) rfl (vp_in_nI hj (by omega)) hd ?_
  rw [nI_clamp (by omega)]
  exact (K p e R s m args below meth c H locs cells slots lsA C r hP hD hS hL)
theorem ev_lastoreT {a i n j : Nat} {f : Nat → Int64} {x : Int32} {y : Int64} (hi : w.2[i]? = some (a, .inl (gC G 3, n, .inr (.inl f)))) (hd : decode M.2.1 pc = .ok (.lastore, 1)) (hx : x = nI j) (hj : j < n) (hn : n ≤ 1000)
    {T2 : va_W} (hw : w.2.set i (a, .inl (gC G 3, n, .inr (.inl (vp_updL f j y)))) = T2) (K : Ev G d b M (pc + 1) ls st (w.1, T2) Z) : Ev G d b M pc ls (.long y :: .int x :: dy a :: st) w Z := by
  intro p e R s m args below meth c H locs cells slots lsA C r hP hD hS hL
  subst hx
  have e1 := cv_dy C.1 a
  show W p (gL G) e R s m args below meth c H locs cells slots _ (F0 m pc lsA (.long y :: .int (nI j) :: cv_ G (dy a) :: st.map (cv_ G)))
  rw [e1]
  refine va_last C.2.1 C.2.2.1 (bs_K C.2.2.2.2.2.2.2.2.2) hP hD hS (115 + i) 3 (f := f) (by rw [wl_tl]; exact hi) rfl (vp_in_nI hj (by omega)) hd (fun H1 locs1 hP1 hD1 hS1 => ?_)
  rw [nI_clamp (by omega), wl_ts, hw] at hP1 hD1
  exact K p e R s m args below meth c H1 locs1 cells slots lsA C r hP1 hD1 hS1 hL
theorem ev_baloadT {a i n j : Nat} {f : Nat → Int32} {x : Int32} (hi : w.2[i]? = some (a, .inl (gC G 2, n, .inl f))) (hd : decode M.2.1 pc = .ok (.baload, 1)) (hx : x = nI j) (hj : j < n) (hn : n ≤ 1000)
    (K : Ev G d b M (pc + 1) ls (.int (f j) :: st) w Z) : Ev G d b M pc ls (.int x :: dy a :: st) w Z := by
  intro p e R s m args below meth c H locs cells slots lsA C r hP hD hS hL
  subst hx
  have e1 := cv_dy C.1 a
  show W p (gL G) e R s m args below meth c H locs cells slots _ (F0 m pc lsA (.int (nI j) :: cv_ G (dy a) :: st.map (cv_ G)))
  rw [e1]
  refine va_bald C.2.1 C.2.2.1 (bs_K C.2.2.2.2.2.2.2.2.2) hP (115 + i) 2 (f := f) (by rw [wl_tl]; exact hi) rfl (vp_in_nI hj (by omega)) hd ?_
  rw [nI_clamp (by omega)]
  exact (K p e R s m args below meth c H locs cells slots lsA C r hP hD hS hL)
theorem ev_bastoreT {a i n j : Nat} {f : Nat → Int32} {x y z : Int32} (hi : w.2[i]? = some (a, .inl (gC G 2, n, .inl f))) (hd : decode M.2.1 pc = .ok (.bastore, 1)) (hx : x = nI j) (hz : vp_nar .byte y = z) (hj : j < n) (hn : n ≤ 1000)
    {T2 : va_W} (hw : w.2.set i (a, .inl (gC G 2, n, .inl (upd f j z))) = T2) (K : Ev G d b M (pc + 1) ls st (w.1, T2) Z) : Ev G d b M pc ls (.int y :: .int x :: dy a :: st) w Z := by
  intro p e R s m args below meth c H locs cells slots lsA C r hP hD hS hL
  subst hx
  have e1 := cv_dy C.1 a
  show W p (gL G) e R s m args below meth c H locs cells slots _ (F0 m pc lsA (.int y :: .int (nI j) :: cv_ G (dy a) :: st.map (cv_ G)))
  rw [e1]
  refine va_bast C.2.1 C.2.2.1 (bs_K C.2.2.2.2.2.2.2.2.2) hP hD hS (115 + i) 2 (f := f) (by rw [wl_tl]; exact hi) rfl (vp_in_nI hj (by omega)) hd (fun H1 locs1 hP1 hD1 hS1 => ?_)
  rw [nI_clamp (by omega), wl_ts, hz, hw] at hP1 hD1
  exact K p e R s m args below meth c H1 locs1 cells slots lsA C r hP1 hD1 hS1 hL
theorem ev_alenT {a i t n : Nat} {zz : (Nat → Int32) ⊕ (Nat → Int64) ⊕ (Nat → UInt32) ⊕ (Nat → UInt64) ⊕ (Nat → Option Nat)} {ty : FieldType} (hi : w.2[i]? = some (a, .inl (gC G t, n, zz))) (ht : (tys_ G)[t]? = some (gC G t, ty)) (hd : decode M.2.1 pc = .ok (.arraylength, 1))
    (K : Ev G d b M (pc + 1) ls (.int (nI n) :: st) w Z) : Ev G d b M pc ls (dy a :: st) w Z := by
  intro p e R s m args below meth c H locs cells slots lsA C r hP hD hS hL
  have e1 := cv_dy C.1 a
  show W p (gL G) e R s m args below meth c H locs cells slots _ (F0 m pc lsA (cv_ G (dy a) :: st.map (cv_ G)))
  rw [e1]
  exact va_alen (x := (n, zz)) C.2.1 C.2.2.1 (bs_K C.2.2.2.2.2.2.2.2.2) hP (115 + i) t (by rw [wl_tl]; exact hi) ht rfl hd (K p e R s m args below meth c H locs cells slots lsA C r hP hD hS hL)
theorem ev_getTI {a i idx ci j : Nat} {fs : List Value} {x : Int32} {fin : Bool} {ty : FieldType} (hf : fl_ M.1.cls idx ci j fin ty) (hi : w.2[i]? = some (a, .inr (ci, fs))) (hd : decode M.2.1 pc = .ok (.getfield idx, 3)) (hv : fs[j]? = some (.int x))
    (K : Ev G d b M (pc + 3) ls (.int x :: st) w Z) : Ev G d b M pc ls (dy a :: st) w Z := by
  intro p e R s m args below meth c H locs cells slots lsA C r hP hD hS hL
  have e1 := cv_dy C.1 a
  show W p (gL G) e R s m args below meth c H locs cells slots _ (F0 m pc lsA (cv_ G (dy a) :: st.map (cv_ G)))
  rw [e1]
  obtain ⟨C1, T1, N, ty0, h1, h2, h3, h4, -, -, -, -⟩ := hf
  exact va_get C.2.1 C.2.2.1 C.2.2.2.2.2.2.1 h3 C.2.2.2.2.2.1 (bs_K C.2.2.2.2.2.2.2.2.2) hP (115 + i) (by rw [wl_tl]; exact hi) h1 j h2 (C.2.2.2.2.2.2.1 _ h4) (fun _ h => h) hv hd (K p e R s m args below meth c H locs cells slots lsA C r hP hD hS hL)
theorem ev_getTR {a i idx ci j y : Nat} {fs : List Value} {fin : Bool} {ty : FieldType} (hf : fl_ M.1.cls idx ci j fin ty) (hi : w.2[i]? = some (a, .inr (ci, fs))) (hd : decode M.2.1 pc = .ok (.getfield idx, 3)) (hv : fs[j]? = some (.ref y))
    (K : Ev G d b M (pc + 3) ls (dy y :: st) w Z) : Ev G d b M pc ls (dy a :: st) w Z := by
  intro p e R s m args below meth c H locs cells slots lsA C r hP hD hS hL
  have e1 := cv_dy C.1 a
  show W p (gL G) e R s m args below meth c H locs cells slots _ (F0 m pc lsA (cv_ G (dy a) :: st.map (cv_ G)))
  rw [e1]
  obtain ⟨C1, T1, N, ty0, h1, h2, h3, h4, -, -, -, -⟩ := hf
  refine va_get C.2.1 C.2.2.1 C.2.2.2.2.2.2.1 h3 C.2.2.2.2.2.1 (bs_K C.2.2.2.2.2.2.2.2.2) hP (115 + i) (by rw [wl_tl]; exact hi) h1 j h2 (C.2.2.2.2.2.2.1 _ h4) (fun _ h => h) hv hd ?_
  rw [← cv_dy C.1 y]
  exact (K p e R s m args below meth c H locs cells slots lsA C r hP hD hS hL)
theorem ev_putT {a i idx ci j : Nat} {fs : List Value} {v : Value} {u : Value} {ty : FieldType} (hf : fl_ M.1.cls idx ci j false ty) (hi : w.2[i]? = some (a, .inr (ci, fs))) (hd : decode M.2.1 pc = .ok (.putfield idx, 3)) (hu : ok_G G → cv_ G v = u) (hn : narrow ty u = u) (hfit : fits ty u = true) (hj : j < fs.length)
    {T2 : va_W} (hw : w.2.set i (a, .inr (ci, fs.set j u)) = T2) (K : Ev G d b M (pc + 3) ls st (w.1, T2) Z) : Ev G d b M pc ls (v :: dy a :: st) w Z := by
  intro p e R s m args below meth c H locs cells slots lsA C r hP hD hS hL
  have e1 := cv_dy C.1 a
  show W p (gL G) e R s m args below meth c H locs cells slots _ (F0 m pc lsA (cv_ G v :: cv_ G (dy a) :: st.map (cv_ G)))
  rw [e1, hu C.1]
  obtain ⟨C1, T1, N, ty0, h1, h2, h3, h4, h5, h6, h7, h8⟩ := hf
  refine va_put C.2.1 C.2.2.1 C.2.2.2.2.2.2.1 h3 ty0 h5 h6 C.2.2.2.2.2.1 (bs_K C.2.2.2.2.2.2.2.2.2) hP hD hS (115 + i) (by rw [wl_tl]; exact hi) h1 j h2 (C.2.2.2.2.2.2.1 _ h4) (fun _ h => h) h7 h8 hn hfit hj hd (fun H1 locs1 hP1 hD1 hS1 => ?_)
  rw [wl_ts, hw] at hP1 hD1
  exact K p e R s m args below meth c H1 locs1 cells slots lsA C r hP1 hD1 hS1 hL
theorem ev_putTF {a i idx ci j : Nat} {fs : List Value} {v : Value} {u : Value} {ty : FieldType} (hf : fl_ M.1.cls idx ci j true ty) (hin : M.1.name = "<init>") (hdecl : ∀ C T N, vwCl[ci]? = some (C, T, N) → (T j).1 = M.1.cls) (hi : w.2[i]? = some (a, .inr (ci, fs))) (hd : decode M.2.1 pc = .ok (.putfield idx, 3)) (hu : ok_G G → cv_ G v = u) (hn : narrow ty u = u) (hfit : fits ty u = true) (hj : j < fs.length)
    {T2 : va_W} (hw : w.2.set i (a, .inr (ci, fs.set j u)) = T2) (K : Ev G d b M (pc + 3) ls st (w.1, T2) Z) : Ev G d b M pc ls (v :: dy a :: st) w Z := by
  intro p e R s m args below meth c H locs cells slots lsA C r hP hD hS hL
  have e1 := cv_dy C.1 a
  show W p (gL G) e R s m args below meth c H locs cells slots _ (F0 m pc lsA (cv_ G v :: cv_ G (dy a) :: st.map (cv_ G)))
  rw [e1, hu C.1]
  obtain ⟨C1, T1, N, ty0, h1, h2, h3, h4, h5, h6, h7, h8⟩ := hf
  refine va_putF C.2.1 C.2.2.1 C.2.2.2.2.2.2.1 h3 ty0 h5 h6 C.2.2.2.2.2.1 (bs_K C.2.2.2.2.2.2.2.2.2) hP hD hS (115 + i) (by rw [wl_tl]; exact hi) h1 j h2 (C.2.2.2.2.2.2.1 _ h4) (fun _ h => h) h7 (C.2.2.2.2.2.2.2.1.2.trans hin) (hdecl _ _ _ h1) h8 hn hfit hj hd (fun H1 locs1 hP1 hD1 hS1 => ?_)
  rw [wl_ts, hw] at hP1 hD1
  exact K p e R s m args below meth c H1 locs1 cells slots lsA C r hP1 hD1 hS1 hL
end
