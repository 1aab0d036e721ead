/-! texts: lists of codes; strings and their bytes, made or named by the law -/
def sTx : List (List Nat) := sB.map (fun l => l.map (fun x => x.toInt.toNat))
def bv_ (G : GX) (T : va_W) (y n : Nat) (f : Nat → Int32) : Prop := (∃ a, y = 10000 + a ∧ (a, .inl (gC G 2, n, .inl f)) ∈ T) ∨ (∃ i, i < sN.length ∧ y = 3000 + i ∧ n = sN.getD i 0 ∧ f = fun j => (sB.getD i []).getD j 0)
def sv_ (G : GX) (T : va_W) (x n : Nat) (f : Nat → Int32) : Prop := (∃ a v h z, x = 10000 + a ∧ (a, .inr (0, [.ref v, .int 0, .int h, .int z])) ∈ T ∧ (v, .inl (gC G 2, n, .inl f)) ∈ T) ∨ (∃ i, i < sN.length ∧ x = 2000 + i ∧ n = sN.getD i 0 ∧ f = fun j => (sB.getD i []).getD j 0)
/-- the bytes f begin with the text L -/
def tx_ (f : Nat → Int32) (L : List Nat) : Prop := (∀ c ∈ L, c < 128) ∧ ∀ j, j < L.length → f j = nI (L.getD j 0)
/-- reference x is a string of the text L -/
def str_ (G : GX) (T : va_W) (x : Nat) (L : List Nat) : Prop := ∃ f, sv_ G T x L.length f ∧ tx_ f L
theorem bv_mo {G : GX} {T T' : va_W} {y n : Nat} {f : Nat → Int32} (h : bv_ G T y n f) (hs : ∀ q ∈ T, q ∈ T') : bv_ G T' y n f := by
  rcases h with ⟨a, h1, h2⟩ | h
  · exact Or.inl ⟨a, h1, hs _ h2⟩
  · exact Or.inr h
theorem sv_mo {G : GX} {T T' : va_W} {y n : Nat} {f : Nat → Int32} (h : sv_ G T y n f) (hs : ∀ q ∈ T, q ∈ T') : sv_ G T' y n f := by
  rcases h with ⟨a, v, z1, z2, h1, h2, h3⟩ | h
  · exact Or.inl ⟨a, v, z1, z2, h1, hs _ h2, hs _ h3⟩
  · exact Or.inr h
theorem str_mo {G : GX} {T T' : va_W} {x : Nat} {L : List Nat} (h : str_ G T x L) (hs : ∀ q ∈ T, q ∈ T') : str_ G T' x L := by
  obtain ⟨f, h1, h2⟩ := h
  exact ⟨f, sv_mo h1 hs, h2⟩
theorem lit_ok : ∀ i : Fin 17, (sTx.getD i.val []).length = sN.getD i.val 0 ∧ (∀ c ∈ sTx.getD i.val [], c < 128) ∧ (List.range (sN.getD i.val 0)).all (fun j => (sB.getD i.val []).getD j 0 == nI ((sTx.getD i.val []).getD j 0)) = true ∧ sN.getD i.val 0 < 100 := by decide +kernel
theorem str_lit {G : GX} {T : va_W} {i : Nat} (hi : i < 17) : str_ G T (2000 + i) (sTx.getD i []) := by
  obtain ⟨h1, h2, h3, -⟩ := lit_ok ⟨i, hi⟩
  refine ⟨fun j => (sB.getD i []).getD j 0, Or.inr ⟨i, hi, rfl, h1, rfl⟩, h2, fun j hj => ?_⟩
  have h3 := List.all_eq_true.mp h3 j (List.mem_range.mpr (by rw [← h1]; exact hj))
  exact eq_of_beq h3
theorem tx_app {f g : Nat → Int32} {L1 L2 : List Nat} (h1 : tx_ f L1) (h2 : tx_ g L2) {k : Nat → Int32} (hk : ∀ j, j < L1.length → k j = f j) (hk2 : ∀ j, j < L2.length → k (L1.length + j) = g j) : tx_ k (L1 ++ L2) := by
  refine ⟨fun c hc => ?_, fun j hj => ?_⟩
  · rcases List.mem_append.mp hc with h | h
    · exact h1.1 c h
    · exact h2.1 c h
  · rw [List.length_append] at hj
    by_cases h : j < L1.length
    · rw [hk j h, h1.2 j h]
      rw [List.getD_eq_getElem?_getD, List.getD_eq_getElem?_getD, List.getElem?_append_left h]
    · have e : j = L1.length + (j - L1.length) := by omega
      rw [e, hk2 _ (by omega), h2.2 _ (by omega)]
      rw [List.getD_eq_getElem?_getD, List.getD_eq_getElem?_getD, List.getElem?_append_right (by omega)]
      congr 3
      omega
theorem tx_cg {f g : Nat → Int32} {L : List Nat} (h : tx_ f L) (hg : ∀ j, j < L.length → g j = f j) : tx_ g L := ⟨h.1, fun j hj => (hg j hj).trans (h.2 j hj)⟩
theorem tx_lt {f : Nat → Int32} {L : List Nat} (h : tx_ f L) {j : Nat} (hj : j < L.length) : L.getD j 0 < 128 := by
  rw [List.getD_eq_getElem?_getD, List.getElem?_eq_getElem hj]
  exact h.1 _ (List.getElem_mem hj)
theorem by_fit : ∀ n : Fin 128, fits .byte (.int (nI n.val)) = true ∧ vp_nar .byte (nI n.val) = nI n.val ∧ (nI n.val).toInt8.toInt32 = nI n.val ∧ (nI n.val &&& nI 255) = nI n.val := by decide +kernel
section
variable {G : GX} {d b : Nat} {M : MT} {pc : Nat} {ls : List (Option Value)} {st : List Value} {w : WS} {Z : ZT}
theorem ev_sval {x n idx : Nat} {f : Nat → Int32} (hs : sv_ G w.2 x n f) (hf : fl_ M.1.cls idx 0 0 true (.array .byte)) (hd : decode M.2.1 pc = .ok (.getfield idx, 3))
    (K : ∀ y, bv_ G w.2 y n f → Ev G d b M (pc + 3) ls (.ref y :: st) w Z) : Ev G d b M pc ls (.ref x :: st) w Z := by
  rcases hs with ⟨a, v, h, z, rfl, h1, h2⟩ | ⟨i, hi, rfl, h1, h2⟩
  · obtain ⟨k, hk⟩ := List.mem_iff_getElem?.mp h1
    exact ev_getTR hf hk hd rfl (K (10000 + v) (Or.inl ⟨v, rfl, h2⟩))
  · intro p e R s m args below meth c H locs cells slots lsA C r hP hD hS hL
    obtain ⟨C1, T1, N, ty0, g1, -, -, g4, -, -, -, -⟩ := hf
    cases g1
    exact vk_getf C.2.1 C.2.2.1 (bs_S C.2.2.2.2.2.2.2.2.2 i hi).2.2.1 hS C.2.2.2.2.2.1 (C.2.2.2.2.2.2.1 _ g4) (fun _ h => h) hd (K (3000 + i) (Or.inr ⟨i, hi, rfl, h1, h2⟩) p e R s m args below meth c H locs cells slots lsA C r hP hD hS hL)
theorem ev_scod {x n idx : Nat} {f : Nat → Int32} (hs : sv_ G w.2 x n f) (hf : fl_ M.1.cls idx 0 1 true .byte) (hd : decode M.2.1 pc = .ok (.getfield idx, 3))
    (K : Ev G d b M (pc + 3) ls (.int 0 :: st) w Z) : Ev G d b M pc ls (.ref x :: st) w Z := by
  rcases hs with ⟨a, v, h, z, rfl, h1, h2⟩ | ⟨i, hi, rfl, h1, h2⟩
  · obtain ⟨k, hk⟩ := List.mem_iff_getElem?.mp h1
    exact ev_getTI hf hk hd rfl K
  · intro p e R s m args below meth c H locs cells slots lsA C r hP hD hS hL
    obtain ⟨C1, T1, N, ty0, g1, -, -, g4, -, -, -, -⟩ := hf
    cases g1
    exact vk_getf C.2.1 C.2.2.1 (bs_S C.2.2.2.2.2.2.2.2.2 i hi).2.1 hS C.2.2.2.2.2.1 (C.2.2.2.2.2.2.1 _ g4) (fun _ h => h) hd (K p e R s m args below meth c H locs cells slots lsA C r hP hD hS hL)
theorem ev_blen {y n : Nat} {f : Nat → Int32} (hs : bv_ G w.2 y n f) (hd : decode M.2.1 pc = .ok (.arraylength, 1)) (K : Ev G d b M (pc + 1) ls (.int (nI n) :: st) w Z) : Ev G d b M pc ls (.ref y :: st) w Z := by
  rcases hs with ⟨a, rfl, h1⟩ | ⟨i, hi, rfl, h1, h2⟩
  · obtain ⟨k, hk⟩ := List.mem_iff_getElem?.mp h1
    exact ev_alenT (t := 2) hk rfl hd K
  · intro p e R s m args below meth c H locs cells slots lsA C r hP hD hS hL
    subst h1
    exact va_tlen C.2.1 C.2.2.1 (bs_S C.2.2.2.2.2.2.2.2.2 i hi).2.2.2 hS rfl hd (K p e R s m args below meth c H locs cells slots lsA C r hP hD hS hL)
theorem ev_bld {y n j : Nat} {x : Int32} {f : Nat → Int32} (hs : bv_ G w.2 y n f) (hd : decode M.2.1 pc = .ok (.baload, 1)) (hx : x = nI j) (hj : j < n) (hn : n ≤ 1000) (K : Ev G d b M (pc + 1) ls (.int (f j) :: st) w Z) : Ev G d b M pc ls (.int x :: .ref y :: st) w Z := by
  rcases hs with ⟨a, rfl, h1⟩ | ⟨i, hi, rfl, h1, h2⟩
  · obtain ⟨k, hk⟩ := List.mem_iff_getElem?.mp h1
    exact ev_baloadT hk hd hx hj hn K
  · intro p e R s m args below meth c H locs cells slots lsA C r hP hD hS hL
    subst h1 h2 hx
    exact va_tb C.2.1 C.2.2.1 (bs_S C.2.2.2.2.2.2.2.2.2 i hi).2.2.2 hS (vp_in_nI hj (by omega)) (by rw [nI_clamp (by omega)]; rfl) hd (K p e R s m args below meth c H locs cells slots lsA C r hP hD hS hL)
theorem ev_bcpy {idx y n0 n1 a i j k q : Nat} {f g : Nat → Int32} {rest : List Value} {x z u : Int32} (hs : bv_ G w.2 y n0 f) (hl : al_ M.1.cls idx) (hd : decode M.2.1 pc = .ok (.invokestatic idx, 3)) (hx : x = nI i) (hz : z = nI j) (hu : u = nI k) (hi : w.2[q]? = some (a, .inl (gC G 2, n1, .inl g))) (h0 : i + k ≤ n0) (h1 : j + k ≤ n1) (hn0 : n0 ≤ 1000) (hn1 : n1 ≤ 1000) (hfit : ∀ t, t < k → fits .byte (.int (f (i + t))) = true) (hm : sm_ rest = true)
    {T2 : va_W} (hw : w.2.set q (a, .inl (gC G 2, n1, .inl (va_cpy f g i j k))) = T2) (K : Ev G d b M (pc + 3) ls rest (w.1, T2) Z) : Ev G d b M pc ls (.int u :: .int z :: dy a :: .int x :: .ref y :: rest) w Z := by
  intro p e R s m args below meth c H locs cells slots lsA C r hP hD hS hL
  subst hx hz hu
  have hts := C.2.2.2.2.2.2.1
  have e1 := cv_dy C.1 a
  show W p (gL G) e R s m args below meth c H locs cells slots _ (F0 m pc lsA (.int (nI k) :: .int (nI j) :: cv_ G (dy a) :: .int (nI i) :: cv_ G (.ref y) :: rest.map (cv_ G)))
  rw [e1]
  have fin : ∀ (H1 : Heap) (locs1 : List Loc), va_P (gD G) vwCl ((wl_ G w).set (115 + q) (a, .inl (gC G 2, n1, .inl (va_cpy f g (nI i).toNatClampNeg (nI j).toNatClampNeg (nI k).toNatClampNeg)))) H1 → va_D (fr_ G) ((wl_ G w).set (115 + q) (a, .inl (gC G 2, n1, .inl (va_cpy f g (nI i).toNatClampNeg (nI j).toNatClampNeg (nI k).toNatClampNeg)))) → va_S (fr_ G) s.heap H1 locs1 → W p (gL G) e R s m args below meth c H1 locs1 cells slots (Z R below args s) (F0 m (pc + 3) lsA (rest.map (cv_ G))) := by
    intro H1 locs1 hP1 hD1 hS1
    rw [nI_clamp (by omega), nI_clamp (by omega), nI_clamp (by omega), wl_ts, hw] at hP1 hD1
    exact K p e R s m args below meth c H1 locs1 cells slots lsA C r hP1 hD1 hS1 hL
  have hlo : ((rest.map (cv_ G)).map fun v => v.category).sum + (nativeFrameWords "java/lang/System" "arraycopy" 5 + 11) ≤ R.locals := by
    rw [cv_sum]
    exact cp_lo (by simpa [sm_] using hm) r.2.1
  rcases hs with ⟨a0, rfl, hm0⟩ | ⟨i0, hi0, rfl, h2, h3⟩
  · obtain ⟨k0, hk0⟩ := List.mem_iff_getElem?.mp hm0
    have e2 := cv_dy C.1 a0
    rw [e2]
    exact va_copyi C.2.1 C.2.2.1 (C.2.2.2.1.trans hL.1.symm) C.2.2.2.2.2.1 (hts _ hl) (hts _ al_nat) (hts _ al_stat) (hts _ al_ini) (bs_K C.2.2.2.2.2.2.2.2.2) hP hD hS (115 + k0) (115 + q) 2 2 (f := f) (g := g) (by rw [wl_tl]; exact hk0) (by rw [wl_tl]; exact hi) rfl rfl rfl (nI_pos (by omega)) (nI_pos (by omega)) (nI_pos (by omega)) (by rw [nI_clamp (by omega), nI_clamp (by omega)]; exact h0) (by rw [nI_clamp (by omega), nI_clamp (by omega)]; exact h1) (fun t ht => by rw [nI_clamp (by omega)] at ht ⊢; exact hfit t ht) (by have := r.1; omega) hlo hd fin
  · subst h2 h3
    exact vk_copyt C.2.1 C.2.2.1 (C.2.2.2.1.trans hL.1.symm) C.2.2.2.2.2.1 (hts _ hl) (hts _ al_nat) (hts _ al_stat) (hts _ al_ini) (bs_K C.2.2.2.2.2.2.2.2.2) hP hD hS (bs_S C.2.2.2.2.2.2.2.2.2 i0 hi0).2.2.2 (115 + q) 2 (by rw [wl_tl]; exact hi) rfl (nI_pos (by omega)) (nI_pos (by omega)) (nI_pos (by omega)) (by rw [nI_clamp (by omega), nI_clamp (by omega)]; exact h0) (by rw [nI_clamp (by omega), nI_clamp (by omega)]; exact h1) (fun t ht => by rw [nI_clamp (by omega)] at ht ⊢; exact hfit t ht) (by have := r.1; omega) hlo hd fin
/-- statics that are read -/
theorem ev_gcomp {idx : Nat} (hw : Cond.fieldLink M.1.cls idx "java/lang/String" "COMPACT_STRINGS" "Z" ∈ gd_) (hd : decode M.2.1 pc = .ok (.getstatic idx, 3)) (K : Ev G d b M (pc + 3) ls (.int 1 :: st) w Z) : Ev G d b M pc ls st w Z := by
  intro p e R s m args below meth c H locs cells slots lsA C r hP hD hS hL
  have hB := C.2.2.2.2.2.2.2.2.2.2.2.2.2.2.1.1.2.2
  exact va_gets C.2.1 C.2.2.1 hB hS C.2.2.2.2.2.1 (C.2.2.2.2.2.2.1 _ hw) (fun _ h => h) hd (K p e R s m args below meth c H locs cells slots lsA C r hP hD hS hL)
theorem ev_gfmt {idx : Nat} (hw : Cond.fieldLink M.1.cls idx "jdk/internal/util/Preconditions" "SIOOBE_FORMATTER" "Ljava/util/function/BiFunction;" ∈ gd_) (hd : decode M.2.1 pc = .ok (.getstatic idx, 3)) (K : ∀ x : Value, (x = .null ∨ x = .ref 4000) → Ev G d b M (pc + 3) ls (x :: st) w Z) : Ev G d b M pc ls st w Z := by
  intro p e R s m args below meth c H locs cells slots lsA C r hP hD hS hL
  obtain ⟨x, hx, hB⟩ := C.2.2.2.2.2.2.2.2.2.2.2.2.2.2.1.2
  exact va_gets C.2.1 C.2.2.1 hB hS C.2.2.2.2.2.1 (C.2.2.2.2.2.2.1 _ hw) (fun _ h => h) hd (K x hx p e R s m args below meth c H locs cells slots lsA C r hP hD hS hL)
theorem ev_gdig {idx : Nat} {nm : String} {f : Nat → Int32} {k : Nat} (hq : (nm = "DigitOnes" ∧ f = dgO ∧ k = 4001) ∨ (nm = "DigitTens" ∧ f = dgT ∧ k = 4002)) (hw : Cond.fieldLink M.1.cls idx "java/lang/Integer" nm "[B" ∈ gd_) (hd : decode M.2.1 pc = .ok (.getstatic idx, 3)) (K : Ev G d b M (pc + 3) ls (.ref k :: st) w Z) : Ev G d b M pc ls st w Z := by
  intro p e R s m args below meth c H locs cells slots lsA C r hP hD hS hL
  have h1 := C.2.2.2.2.2.2.2.2.2.2.2.2.2.2.1.1
  have hB : vD_ nm f (gA G k) (fr_ G) s s.heap := by
    rcases hq with ⟨rfl, rfl, rfl⟩ | ⟨rfl, rfl, rfl⟩
    · exact h1.1
    · exact h1.2.1
  exact va_gets C.2.1 C.2.2.1 hB.1 hS C.2.2.2.2.2.1 (C.2.2.2.2.2.2.1 _ hw) (fun _ h => h) hd (K p e R s m args below meth c H locs cells slots lsA C r hP hD hS hL)
theorem ev_digl {nm : String} {f : Nat → Int32} {k j : Nat} {x : Int32} (hq : (nm = "DigitOnes" ∧ f = dgO ∧ k = 4001) ∨ (nm = "DigitTens" ∧ f = dgT ∧ k = 4002)) (hd : decode M.2.1 pc = .ok (.baload, 1)) (hx : x = nI j) (hj : j < 100) (K : Ev G d b M (pc + 1) ls (.int (f j) :: st) w Z) : Ev G d b M pc ls (.int x :: .ref k :: st) w Z := by
  intro p e R s m args below meth c H locs cells slots lsA C r hP hD hS hL
  subst hx
  have h1 := C.2.2.2.2.2.2.2.2.2.2.2.2.2.2.1.1
  have hB : vD_ nm f (gA G k) (fr_ G) s s.heap := by
    rcases hq with ⟨rfl, rfl, rfl⟩ | ⟨rfl, rfl, rfl⟩
    · exact h1.1
    · exact h1.2.1
  exact va_tb C.2.1 C.2.2.1 hB.2 hS (vp_in_nI hj (by omega)) (by rw [nI_clamp (by omega)]; rfl) hd (K p e R s m args below meth c H locs cells slots lsA C r hP hD hS hL)
theorem ev_null (hd : decode M.2.1 pc = .ok (.aconst_null, 1)) (K : Ev G d b M (pc + 1) ls (.null :: st) w Z) : Ev G d b M pc ls st w Z := by
  intro p e R s m args below meth c H locs cells slots lsA C r hP hD hS hL
  exact lv_null C.2.1 C.2.2.1 hd (K p e R s m args below meth c H locs cells slots lsA C r hP hD hS hL)
theorem ev_nonnull {x : Nat} {off : Int} {tgt : Nat} (hd : decode M.2.1 pc = .ok (.ifnonnull off, 3)) (ht : (pc : Int) + off = (tgt : Int)) (K : Ev G d b M tgt ls st w Z) : Ev G d b M pc ls (.ref x :: st) w Z := by
  intro p e R s m args below meth c H locs cells slots lsA C r hP hD hS hL
  exact lv_ifnonnull C.2.1 C.2.2.1 hd ht (K p e R s m args below meth c H locs cells slots lsA C r hP hD hS hL)
end
