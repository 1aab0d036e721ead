/-! the law's start: walked -/
theorem kc_astn {G : GX} {d b : Nat} {M : MT} {pc : Nat} {L : List (Nat × Value)} {st : List Value} {ws : va_W} {Z : ZT} {k : Fin 4} {x : Nat} {L' : List (Nat × Value)} (hd : decode M.2.1 pc = .ok (.astore_n k, 1)) (hn : (k : Nat) < M.2.2.1) (hl : ((k : Nat), Value.ref x) :: L.filter (fun q => !(q.1 == (k : Nat)) && !(q.1 + 1 == (k : Nat) && q.2.category == 2)) = L') (K : Ec G d b M (pc + 1) L' st ws Z) : Ec G d b M pc L (.ref x :: st) ws Z := by
  intro p e R s m args below meth c H locs cells slots lsA C r hP hD hS hL
  exact lv_astore_n C.2.1 C.2.2.1 hd rfl hL hn hl (fun lsB hB => K p e R s m args below meth c H locs cells slots lsB C r hP hD hS hB)
theorem kc_ast {G : GX} {d b : Nat} {M : MT} {pc : Nat} {L : List (Nat × Value)} {st : List Value} {ws : va_W} {Z : ZT} {i x : Nat} {L' : List (Nat × Value)} (hd : decode M.2.1 pc = .ok (.astore i, 2)) (hn : i < M.2.2.1) (hl : (i, Value.ref x) :: L.filter (fun q => !(q.1 == i) && !(q.1 + 1 == i && q.2.category == 2)) = L') (K : Ec G d b M (pc + 2) L' st ws Z) : Ec G d b M pc L (.ref x :: st) ws Z := by
  intro p e R s m args below meth c H locs cells slots lsA C r hP hD hS hL
  exact lv_astore C.2.1 C.2.2.1 hd hL hn hl (fun lsB hB => K p e R s m args below meth c H locs cells slots lsB C r hP hD hS hB)
theorem kc_isti {G : GX} {d b : Nat} {M : MT} {pc : Nat} {L : List (Nat × Value)} {st : List Value} {ws : va_W} {Z : ZT} {i : Nat} {x : Int32} {L' : List (Nat × Value)} (hd : decode M.2.1 pc = .ok (.istore i, 2)) (hn : i < M.2.2.1) (hl : (i, Value.int x) :: L.filter (fun q => !(q.1 == i) && !(q.1 + 1 == i && q.2.category == 2)) = L') (K : Ec G d b M (pc + 2) L' st ws Z) : Ec G d b M pc L (.int x :: st) ws Z := by
  intro p e R s m args below meth c H locs cells slots lsA C r hP hD hS hL
  exact lv_istore C.2.1 C.2.2.1 hd hL hn hl (fun lsB hB => K p e R s m args below meth c H locs cells slots lsB C r hP hD hS hB)
theorem bs_GW {G : GX} (q : Nat) (c1 c2 c3 : Nat → Nat) (hf : Nat → Option Nat) (hc : Nat → Nat → Nat) (b4 ha b5 cm b6 sp b7 b8 ln b9 r0 r1 b10 p0 p1 q2 a0 a1 a2 a3 a4 a5 a6 a7 a8 o od : Nat) {U : State} {H : Heap} (h : bs_ G U H) : bs_ (GW G q c1 c2 c3 hf hc b4 ha b5 cm b6 sp b7 b8 ln b9 r0 r1 b10 p0 p1 q2 a0 a1 a2 a3 a4 a5 a6 a7 a8 o od) U H := by
  obtain ⟨h1, h2, h3, h4, h5, h6, h7, h8, h9, h10, h11⟩ := h
  refine ⟨h1, h2, h3, h4, vkS_cg h5 (fun i hi => ?_) (fun i hi => ?_), ⟨h6.1, ?_⟩, h7, h8, h9, h10, h11⟩
  · rcases (by omega : i = 0 ∨ i = 1) with rfl | rfl <;> rfl
  · rcases (by omega : i = 0 ∨ i = 1) with rfl | rfl <;> rfl
  · obtain ⟨x, hx, hz⟩ := h6.2
    rcases hx with rfl | rfl
    · exact ⟨.null, Or.inl rfl, hz⟩
    · exact ⟨.ref 4000, Or.inr rfl, hz⟩
theorem kc_ev {G : GX} (q : Nat) (c1 c2 c3 : Nat → Nat) (hf : Nat → Option Nat) (hc : Nat → Nat → Nat) (b4 ha b5 cm b6 sp b7 b8 ln b9 r0 r1 b10 p0 p1 q2 a0 a1 a2 a3 a4 a5 a6 a7 a8 o od : Nat) (hfc : ∀ j, j < 6 → hf j = some (hc j 0)) (hflag : (gL G).stackTraces = false) (hG : gA G 1000 < gZ G) {d b : Nat} {M : MT} {pc : Nat} {ls : List (Option Value)} {L : List (Nat × Value)} {Z : ZT} (hM : M.2.2.2.2 = []) (hls : ∀ (i : Nat) (v : Value), ls[i]? = some (some v) → (i, cv_ (GW G q c1 c2 c3 hf hc b4 ha b5 cm b6 sp b7 b8 ln b9 r0 r1 b10 p0 p1 q2 a0 a1 a2 a3 a4 a5 a6 a7 a8 o od) v) ∈ L) (K : Ev (GW G q c1 c2 c3 hf hc b4 ha b5 cm b6 sp b7 b8 ln b9 r0 r1 b10 p0 p1 q2 a0 a1 a2 a3 a4 a5 a6 a7 a8 o od) d b M pc ls [] w00 Z) : Ec G d b M pc L [] (w3 G q c1 c2 c3 hf hc b4 ha b5 cm b6 sp b7 b8 ln b9 r0 r1 b10 p0 p1 q2 a0 a1 a2 a3 a4 a5 a6 a7 a8 o od) Z := by
  intro p e R s m args' below meth c H locs cells slots lsA C r hP hD hS hL
  have hall := at3_all (G := G) q c1 c2 c3 hf hc b4 ha b5 cm b6 sp b7 b8 ln b9 r0 r1 b10 p0 p1 q2 a0 a1 a2 a3 a4 a5 a6 a7 a8 o od hfc
  refine K p e R s m args' below meth c H locs cells slots lsA ⟨⟨hflag, fun i j hi hj hij => ?_, fun i hi => ?_, hG⟩, C.2.1, C.2.2.1, C.2.2.2.1, C.2.2.2.2.1, C.2.2.2.2.2.1, C.2.2.2.2.2.2.1, C.2.2.2.2.2.2.2.1.1, by rw [hM]; exact C.2.2.2.2.2.2.2.1.2, bs_GW q c1 c2 c3 hf hc b4 ha b5 cm b6 sp b7 b8 ln b9 r0 r1 b10 p0 p1 q2 a0 a1 a2 a3 a4 a5 a6 a7 a8 o od C.2.2.2.2.2.2.2.2.2.1⟩ r ?_ hS ?_
  · obtain ⟨e1, h1, -⟩ := hall i hi
    obtain ⟨e2, h2, -⟩ := hall j hj
    exact congrArg Fin.val (pi_inj ⟨i, hi⟩ ⟨j, hj⟩ (hD.1 _ _ _ _ h1 h2 hij))
  · obtain ⟨e1, h1, -⟩ := hall i hi
    exact hD.2 _ _ h1
  · intro k x hk
    obtain ⟨hk2, rfl⟩ := wl_inv hk
    obtain ⟨e1, h1, h2⟩ := hall k hk2
    exact h2 H (hP _ _ h1)
  · refine ⟨hL.1, hL.2.1, fun x hx => ?_⟩
    obtain ⟨j, v, h1, h2⟩ := pr_mem.mp hx
    have := hL.2.2 _ (hls j v h1)
    rw [h2]
    simpa using this
set_option maxRecDepth 8000 in
theorem law_start {G : GX} (hflag : (gL G).stackTraces = false) (hG : gA G 1000 < gZ G) {bb : Nat} (hb : gA G 1000 = bb) {Z : ZT} (K : ∀ (q : Nat) (c1 c2 c3 : Nat → Nat) (hf : Nat → Option Nat) (hc : Nat → Nat → Nat) (b4 ha b5 cm b6 sp b7 b8 ln b9 r0 r1 b10 p0 p1 q2 a0 a1 a2 a3 a4 a5 a6 a7 a8 o od : Nat), Ev (GW G q c1 c2 c3 hf hc b4 ha b5 cm b6 sp b7 b8 ln b9 r0 r1 b10 p0 p1 q2 a0 a1 a2 a3 a4 a5 a6 a7 a8 o od) 70 700 mL_law 28 (lq_ 0) [] w00 Z) : Ec G 70 5000 mL_law 0 [(0, .ref bb)] [] [] Z := by
  refine kc_new mk_L_8 (by decide) dL_law_0 (fun q => ?_)
  refine kc_dup dL_law_3 ?_
  refine kc_init (as := []) (st := [.ref q]) il_L_141 hG (kX11_init (pre := []) hG) dL_law_4 rfl (by decide) (by decide) rfl (fun w1 h1 => ?_)
  obtain ⟨c1, c2, c3, hf, hc, b4, ha, b5, cm, b6, sp, b7, b8, ln, b9, r0, r1, b10, p0, p1, e1, hfc⟩ := h1
  refine kc_w (e1.trans (List.nil_append _)) ?_
  refine kc_astn (k := 1) dL_law_7 (by decide) rfl ?_
  refine kc_new mk_L_142 (by decide) dL_law_8 (fun q2 => ?_)
  refine kc_dup dL_law_11 ?_
  refine kc_init (as := []) (st := [.ref q2]) il_L_144 hG (kX12_init hG) dL_law_12 rfl (by decide) (by decide) rfl (fun w2 h2 => ?_)
  obtain ⟨a0, a1, a2, a3, a4, a5, a6, a7, a8, e2⟩ := h2
  refine kc_w e2 ?_
  refine kc_astn (k := 2) dL_law_15 (by decide) rfl ?_
  refine kc_iconst dL_law_16 ic1 ?_
  refine kc_newa (at_ := .long) (t := 3) (zz := .inr (.inl (fun _ => 0))) ac_l rfl rfl ra_l (fun _ => rfl) (by decide) (by decide) (by decide) dL_law_17 (fun o => ?_)
  refine kc_astn (k := 3) dL_law_19 (by decide) rfl ?_
  refine kc_iconst dL_law_20 ic1 ?_
  refine kc_newa (at_ := .double) (t := 4) (zz := .inr (.inr (.inr (.inl (fun _ => 0))))) ac_d rfl rfl ra_d (fun _ => rfl) (by decide) (by decide) (by decide) dL_law_21 (fun od => ?_)
  refine kc_ast dL_law_23 (by decide) rfl ?_
  refine kc_iconst dL_law_25 ic0 ?_
  refine kc_isti dL_law_26 (by decide) rfl ?_
  show Ec G 70 _ mL_law 28 [(5, .int (nI 0)), (4, .ref od), (3, .ref o), (2, .ref q2), (1, .ref q), (0, .ref bb)] [] (w3 G q c1 c2 c3 hf hc b4 ha b5 cm b6 sp b7 b8 ln b9 r0 r1 b10 p0 p1 q2 a0 a1 a2 a3 a4 a5 a6 a7 a8 o od) Z
  refine kc_ev q c1 c2 c3 hf hc b4 ha b5 cm b6 sp b7 b8 ln b9 r0 r1 b10 p0 p1 q2 a0 a1 a2 a3 a4 a5 a6 a7 a8 o od hfc hflag hG rfl (fun i v hv => ?_) (ev_le (by decide) (K q c1 c2 c3 hf hc b4 ha b5 cm b6 sp b7 b8 ln b9 r0 r1 b10 p0 p1 q2 a0 a1 a2 a3 a4 a5 a6 a7 a8 o od))
  match i, hv with
  | 0, hv => cases hv; exact List.mem_of_getElem? (i := 5) (by rw [← hb]; rfl)
  | 1, hv => cases hv; exact List.mem_of_getElem? (i := 4) rfl
  | 2, hv => cases hv; exact List.mem_of_getElem? (i := 3) rfl
  | 3, hv => cases hv; exact List.mem_of_getElem? (i := 2) rfl
  | 4, hv => cases hv; exact List.mem_of_getElem? (i := 1) rfl
  | 5, hv => cases hv; exact List.mem_of_getElem? (i := 0) rfl
  | 6, hv => cases hv
  | 7, hv => cases hv
  | 8, hv => cases hv
  | 9, hv => cases hv
  | k + 10, hv => cases hv
