/-! the start: a new map, drawn in a method of its own -/
abbrev mL_law : MT := (yL_law, cL_law, 2, (Option.some FieldType.boolean), [])
theorem kc_astn {G : GX} {d b : Nat} {M : MT} {pc : Nat} {L : List (Nat × Value)} {st : List Value} {ws : va_W} {Z : ZT} {k : Fin 4} {x : Nat} {L' : List (Nat × Value)} (hd : decode M.2.1 pc = .ok (.astore_n k, 1)) (hn : (k : Nat) < M.2.2.1) (hl : ((k : Nat), Value.ref x) :: L.filter (fun q => !(q.1 == (k : Nat)) && !(q.1 + 1 == (k : Nat) && q.2.category == 2)) = L') (K : Ec G d b M (pc + 1) L' st ws Z) : Ec G d b M pc L (.ref x :: st) ws Z := by
  intro p e R s m args below meth c H locs cells slots lsA C r hP hD hS hL
  exact lv_astore_n C.2.1 C.2.2.1 hd rfl hL hn hl (fun lsB hB => K p e R s m args below meth c H locs cells slots lsB C r hP hD hS hB)
/-- G2 is G with cells of its own -/
def isGW (G G2 : GX) : Prop := ∃ f : Nat → Nat, G2 = (gL G, gD G, fun k => if k < 115 then f k else if 10000 ≤ k then k - 10000 else gA G k, gC G, gZ G, gN G, gX G)
theorem mid_k {f : Nat → Nat} {G : GX} {k : Nat} (h : 115 ≤ k) (h2 : k < 10000) : (if k < 115 then f k else if 10000 ≤ k then k - 10000 else gA G k) = gA G k := by
  rw [if_neg (by omega), if_neg (by omega)]
theorem bs_isGW {G G2 : GX} (h : isGW G G2) {U : State} {H : Heap} (hb : bs_ G U H) : bs_ G2 U H := by
  obtain ⟨f, rfl⟩ := h
  obtain ⟨h1, h2, h3, h4, h5, h6, h7, h8, h9, h10, h11⟩ := hb
  refine ⟨h1, h2, h3, h4, vS_cg h5 (fun i hi => mid_k (by omega) (by omega)) (fun i hi => mid_k (by omega) (by omega)), ⟨h6.1, ?_⟩, h7, fun i k tx hk => ?_, h9, h10, h11⟩
  · obtain ⟨x, hx, hz⟩ := h6.2
    rcases hx with rfl | rfl
    · exact ⟨.null, Or.inl rfl, hz⟩
    · exact ⟨.ref 4000, Or.inr rfl, hz⟩
  · have hi : i < 17 := (List.getElem?_eq_some_iff.mp hk).1
    have h := h8 i k tx hk
    rw [← mid_k (f := f) (G := G) (k := 2000 + i) (by omega) (by omega)] at h
    exact h
theorem kc_ev {G : GX} (q : Nat) (c1 c2 c3 : Nat → Nat) (hf : Nat → Option Nat) (hc : Nat → Nat → Nat) (b4 ha b5 cm b6 sp b7 b8 ln b9 r0 r1 b10 p0 p1 : Nat) (hfc : ∀ j, j < 6 → hf j = some (hc j 0)) (hflag : (gL G).stackTraces = false) (hG : gA G 1000 < gZ G) {d b : Nat} {M : MT} {pc : Nat} {ls : List (Option Value)} {L : List (Nat × Value)} {Z : ZT} (hM : M.2.2.2.2 = []) (hls : ∀ (i : Nat) (v : Value), ls[i]? = some (some v) → (i, cv_ (GW G q c1 c2 c3 hf hc b4 ha b5 cm b6 sp b7 b8 ln b9 r0 r1 b10 p0 p1) v) ∈ L) (K : Ev (GW G q c1 c2 c3 hf hc b4 ha b5 cm b6 sp b7 b8 ln b9 r0 r1 b10 p0 p1) d b M pc ls [] w00 Z) : Ec G d b M pc L [] (w3 G q c1 c2 c3 hf hc b4 ha b5 cm b6 sp b7 b8 ln b9 r0 r1 b10 p0 p1) Z := by
  intro p e R s m args' below meth c H locs cells slots lsA C r hP hD hS hL
  have hall := at3_all (G := G) q c1 c2 c3 hf hc b4 ha b5 cm b6 sp b7 b8 ln b9 r0 r1 b10 p0 p1 hfc
  have hinj : ∀ i j, i < 115 → j < 115 → gA (GW G q c1 c2 c3 hf hc b4 ha b5 cm b6 sp b7 b8 ln b9 r0 r1 b10 p0 p1) i = gA (GW G q c1 c2 c3 hf hc b4 ha b5 cm b6 sp b7 b8 ln b9 r0 r1 b10 p0 p1) j → i = j := fun i j hi hj hij => by
    obtain ⟨e1, h1, -⟩ := hall i hi
    obtain ⟨e2, h2, -⟩ := hall j hj
    exact congrArg Fin.val (pi_inj ⟨i, hi⟩ ⟨j, hj⟩ (hD.1 _ _ _ _ h1 h2 hij))
  have hge : ∀ i, i < 115 → gZ (GW G q c1 c2 c3 hf hc b4 ha b5 cm b6 sp b7 b8 ln b9 r0 r1 b10 p0 p1) ≤ gA (GW G q c1 c2 c3 hf hc b4 ha b5 cm b6 sp b7 b8 ln b9 r0 r1 b10 p0 p1) i := fun i hi => by
    obtain ⟨e1, h1, -⟩ := hall i hi
    exact hD.2 _ _ h1
  have hdy : ∀ a, gA (GW G q c1 c2 c3 hf hc b4 ha b5 cm b6 sp b7 b8 ln b9 r0 r1 b10 p0 p1) (10000 + a) = a := fun a => by
    show (if 10000 + a < 115 then _ else if 10000 ≤ 10000 + a then 10000 + a - 10000 else _) = a
    rw [if_neg (by omega), if_pos (by omega), Nat.add_sub_cancel_left]
  have ew : wl_ (GW G q c1 c2 c3 hf hc b4 ha b5 cm b6 sp b7 b8 ln b9 r0 r1 b10 p0 p1) w00 = wl0 (GW G q c1 c2 c3 hf hc b4 ha b5 cm b6 sp b7 b8 ln b9 r0 r1 b10 p0 p1) w00 := List.append_nil _
  refine K p e R s m args' below meth c H locs cells slots lsA ⟨⟨hflag, hinj, hge, hG, hdy⟩, C.2.1, C.2.2.1, C.2.2.2.1, C.2.2.2.2.1, C.2.2.2.2.2.1, C.2.2.2.2.2.2.1, ⟨C.2.2.2.2.2.2.2.1.1, C.2.2.2.2.2.2.2.2.1⟩, by rw [hM]; exact C.2.2.2.2.2.2.2.1.2, bs_isGW ⟨_, rfl⟩ C.2.2.2.2.2.2.2.2.2.1⟩ r ?_ ?_ hS ?_
  · rw [ew]
    intro k x hk
    obtain ⟨hk2, rfl⟩ := wl0_inv hk
    obtain ⟨e1, h1, h2⟩ := hall k hk2
    exact h2 H (hP _ _ h1)
  · rw [ew]
    refine ⟨fun i j x y hi hj he => ?_, fun k x hk => ?_⟩
    · obtain ⟨hi2, rfl⟩ := wl0_inv hi
      obtain ⟨hj2, rfl⟩ := wl0_inv hj
      exact hinj i j hi2 hj2 he
    · obtain ⟨hk2, rfl⟩ := wl0_inv hk
      exact hge k hk2
  · refine ⟨hL.1, hL.2.1, fun x hx => ?_⟩
    obtain ⟨j, v, h1, h2⟩ := pr_mem.mp hx
    have := hL.2.2 _ (hls j v h1)
    rw [h2]
    simpa using this
/-! a method that begins with no world and leaves one -/
def qcN (G : GX) (Post : GX → WS → Prop) : Array Value → State → Outcome → State → Prop := fun _ st oc t => (∃ G2 w, isGW G G2 ∧ ok_G G2 ∧ Post G2 w ∧ oc = .returned (some (.ref (gA G2 0))) ∧ va_P (gD G2) vwCl (wl_ G2 w) t.heap ∧ va_D (fr_ G2) (wl_ G2 w)) ∧ va_F (fr_ G) st t
def zN_ (G : GX) (Post : GX → WS → Prop) : ZT := fun R below args s => MQ below (qcN G Post) args s R.cells R.slots (fr_ G)
def BigN (G : GX) (d b : Nat) (M : MT) (args : List Value) (Post : GX → WS → Prop) : Prop :=
  gA G 1000 < gZ G → Met (gL G) M.1 (ws_ M) (ro_ d b) (pcC G args []) (qcN G Post) b (16 * b) (fr_ G)
theorem va_D0 {A : Nat → Prop} : va_D A [] := ⟨fun i j x y hx => by simp at hx, fun k x hk => by simp at hk⟩
theorem kn_of {G : GX} {d b : Nat} {M : MT} {args : List Value} {Post : GX → WS → Prop} (hy : plainName M.1.cls = true) (hh : M.2.2.2.2 = []) (hn : (lg_sl args).length ≤ M.2.2.1) (K : Ec G d b M 0 (lv_args 0 args) [] [] (zN_ G Post)) : BigN G d b M args Post := by
  intro hG
  have hD : va_D (fr_ G) [] := va_D0
  refine Met.ofW (cc := M.2.1) (maxL := M.2.2.1) (ret := M.2.2.2.1) (ws' := gd_) hy (by unfold ws_ cw_; rw [if_pos hh]) ?_
  intro p e s m as below meth c s₁ B hml hv
  obtain ⟨rfl, hP, hB⟩ := hv
  have hts := atoms_spec (ws := ws_ M) B.pre
  have hl := lv_entry args (n := M.2.2.1) hn
  have tb : c.exceptionTable.toList = [] := by
    have h0 := atoms_spec (ws := ws_ M) B.pre _ List.mem_cons_self
    unfold cw_ at h0
    rw [if_pos hh] at h0
    obtain ⟨meth9, c9, h1, h2, -, -, -, -, h7, -⟩ := Cond.code_spec B.named h0
    cases Option.some.inj (h1.symm.trans B.method)
    cases Option.some.inj (h2.symm.trans (Stand.of_body B).code)
    rw [Array.isEmpty_iff.mp h7]
  rw [lg_entry_eq]
  exact K p e (ro_ d b) s m _ below meth c s.heap [] 0 0 _ ⟨hP.2, B.exec, B.bytes, hml, B.returns, findClass_of_methodNamed B.named, fun w h => hts w (List.mem_cons_of_mem _ h), ⟨B.notSynchronized, tb⟩, (name_of_methodNamed B.named B.method).1, hB⟩ ⟨Nat.le_refl _, Nat.le_refl _, by simp [ro_], by simp [ro_]⟩ hP.1 hD va_S.rf hl
theorem ev_aretN {G G2 : GX} (hw : isGW G G2) {d b : Nat} {M : MT} {pc : Nat} {ls : List (Option Value)} {w : WS} {Post : GX → WS → Prop} {n : String} (hd : decode M.2.1 pc = .ok (.areturn, 1)) (hr : M.2.2.2.1 = some (.object n)) (hp : Post G2 w) : Ev G2 d b M pc ls [.ref 0] w (zN_ G Post) := by
  obtain ⟨f, rfl⟩ := hw
  intro p e R s m args below meth c H locs cells slots lsA C r hP hD hS hL
  refine W.widen (k := R.cells) (n := R.slots) (by have := r.2.2.1; omega) (by have := r.2.2.2; omega) ?_
  exact W.aret C.2.1 C.2.2.1 (C.2.2.2.2.1.trans hr) (Or.inl ⟨_, rfl⟩) (Or.inr ⟨_, rfl⟩) (fun t ht hW => ⟨⟨_, w, ⟨f, rfl⟩, C.1, hp, rfl, by rw [ht]; exact hP, hD⟩, hS.F ht⟩) hS.2.2 hd C.2.2.2.2.2.2.2.1.1
theorem kn_back {G : GX} {p : Program} {e : Env} {R : Room} {s : State} {m : MethodId} {args : Array Value} {below : List Frame} {meth : Method} {c : Code} {H : Heap} {locs : List Loc} {cells slots mc ms pc : Nat} {lsA : Array Slot} {st0 rest as : List Value} {Q : State → Prop} {Post : GX → WS → Prop}
    (hr : va_Run p (gL G) e R s m args below meth c H locs cells slots mc ms (F0 m pc lsA st0) rest (qcN G Post as.toArray) (fr_ G)) (hS : va_S (fr_ G) s.heap H locs)
    (kk : ∀ (H1 : Heap) (locs1 : List Loc) (G2 : GX) (w : WS), isGW G G2 → ok_G G2 → Post G2 w → va_P (gD G2) vwCl (wl_ G2 w) H1 → va_D (fr_ G2) (wl_ G2 w) → va_S (fr_ G) s.heap H1 locs1 → W p (gL G) e R s m args below meth c H1 locs1 (cells + mc) (slots + ms) Q (F0 m (pc + 3) lsA (.ref (gA G2 0) :: rest))) : W p (gL G) e R s m args below meth c H locs cells slots Q (F0 m pc lsA st0) := by
  intro T hT X
  obtain ⟨v, st₀, t, T', L1, h0, X', hL, e1, e2, ⟨⟨G2, w, hw, hok, hpo, hv, hp, hdd⟩, hz, hk⟩, stp⟩ := hr T hT X
  cases hv
  rw [h0] at hz hk
  obtain ⟨t2, a1, b1⟩ := kk T'.heap (locs ++ L1) G2 w hw hok hpo (by rw [e1]; exact hp) hdd
    ⟨Nat.le_trans hS.1 (by rw [e1]; exact hz), fun q h1 h2 => by rw [e1, hk q (Nat.lt_of_lt_of_le h1 hS.1) h2]; exact hS.2.1 q h1 h2, fun q hq => by
      rcases List.mem_append.mp hq with h | h
      · exact hS.2.2 q h
      · exact hL q h⟩ T' rfl X'
  exact ⟨t2, stp t2 a1, b1⟩
theorem kn_call {G : GX} {d b : Nat} {M : MT} {pc : Nat} {L : List (Nat × Value)} {ls : List (Option Value)} {Z : ZT} {d' b' idx n : Nat} {M' : MT} {as : List Value} {Post : GX → WS → Prop} (hM : M.2.2.2.2 = []) (hl : sl_ M.1.cls idx M' n) (hG : gA G 1000 < gZ G) (hc : BigN G d' b' M' as Post) (hd : decode M.2.1 pc = .ok (.invokestatic idx, 3)) (hn : as.length = n) (hlt : d' < d) (hb : b' ≤ b)
    (hls : ∀ (G2 : GX), isGW G G2 → ∀ (i : Nat) (v : Value), ls[i]? = some (some v) → (i, cv_ G2 v) ∈ L)
    (K : ∀ (G2 : GX) (w : WS), isGW G G2 → ok_G G2 → Post G2 w → Ev G2 d (b - b') M (pc + 3) ls [.ref 0] w Z) : Ec G d b M pc L as.reverse [] Z := by
  intro p e R s m args below meth c H locs cells slots lsA C r hP hD hS hL
  obtain ⟨h1, h2, h3, h4, h5, h6, h7, h8, h9⟩ := hl
  have hts := C.2.2.2.2.2.2.1
  refine kn_back (va_runS (As := as) (rest := []) ⟨C.2.1, C.2.2.1, C.2.2.2.1, C.2.2.2.2.2.1, hts⟩ (hc hG) ⟨callB_of (ws' := gd_) n hts (gd_in h1) (by unfold ws_; rw [h2]) rfl rfl (hts _ h5) (hts _ h3) ⟨h6, h7, h8⟩ ⟨fo_ok r.1 hlt, lo_ok r.2.1 hlt h9⟩, hts _ h4⟩ ⟨pcC_blind, fun U hU hW => ⟨rfl, ⟨by rw [hU]; exact hP, by rw [hU]; exact Nat.le_trans C.1 hS.1⟩, bs_mv C.2.2.2.2.2.2.2.2.2 hW hS hU hG⟩⟩ rfl hn hL.1 (by rw [List.append_nil]) ?_ hd (rm_fit r hb)) hS (fun H1 locs1 G2 w hw hok hpo hP1 hD1 hS1 => ?_)
  · simp [JFrame.monitorRoom]
  · have hw2 := hw
    have hls2 := hls G2 hw
    have k := K G2 w hw hok hpo
    obtain ⟨f, rfl⟩ := hw
    refine k p e R s m args below meth c H1 locs1 _ _ lsA ⟨hok, C.2.1, C.2.2.1, C.2.2.2.1, C.2.2.2.2.1, C.2.2.2.2.2.1, C.2.2.2.2.2.2.1, ⟨C.2.2.2.2.2.2.2.1.1, C.2.2.2.2.2.2.2.2.1⟩, by rw [hM]; exact C.2.2.2.2.2.2.2.1.2, bs_isGW hw2 C.2.2.2.2.2.2.2.2.2.1⟩ (rm_after r hb) hP1 hD1 hS1 ⟨hL.1, hL.2.1, fun x hx => ?_⟩
    obtain ⟨j, v, g1, g2⟩ := pr_mem.mp hx
    have := hL.2.2 _ (hls2 j v g1)
    rw [g2]
    simpa using this
/-! drawn -/
def dnP (G2 : GX) (w : WS) : Prop := w.2 = [] ∧ ∃ A, aX A w ∧ aN A = 0 ∧ cnS (aS A) ∧ dwS (aS A)
theorem A0_DI : DI A0 0 := ⟨rfl, S0_cn, rfl, Nat.le_refl _, fun r _ => ⟨rfl, rfl, rfl⟩, rfl, rfl, rfl⟩
set_option maxRecDepth 8000 in
theorem gL_drawn {G : GX} (hflag : (gL G).stackTraces = false) (hG : gA G 1000 < gZ G) (hN : gN G ≤ 260) {bb : Nat} (hb : gA G 1000 = bb) : BigN G 23 53000 mL_drawn [.ref bb] dnP := by
  refine kn_of (by decide +kernel) rfl (Nat.le_of_ble_eq_true rfl) ?_
  show Ec G 23 53000 mL_drawn 0 [(0, .ref bb)] [] [] _
  refine kc_new mk_L_9 (by decide) dL_drawn_0 (fun q => ?_)
  refine kc_dup dL_drawn_3 ?_
  refine kc_init (as := []) (st := [.ref q]) il_L_154 hG (kX11_init (pre := []) hG) dL_drawn_4 rfl (by decide) (by decide) rfl (fun w1 h1 => ?_)
  obtain ⟨c1, c2, c3, hf, hc, b4, ha, b5, cm, b6, sp, b7, b8, ln, b9, r0, r1, b10, p0, p1, e1, hfc⟩ := h1
  refine kc_w (e1.trans (List.nil_append _)) ?_
  refine kc_astn (k := 1) dL_drawn_7 (by decide) rfl ?_
  show Ec G 23 _ mL_drawn 8 [(1, .ref q), (0, .ref bb)] [] (w3 G q c1 c2 c3 hf hc b4 ha b5 cm b6 sp b7 b8 ln b9 r0 r1 b10 p0 p1) _
  refine kc_ev q c1 c2 c3 hf hc b4 ha b5 cm b6 sp b7 b8 ln b9 r0 r1 b10 p0 p1 (ls := [some (.ref 1000), some (.ref 0), none, none, none, none, none, none, none]) hfc hflag hG rfl (fun i v hv => ?_) (ev_bu (50000 + 0) (by decide) (gL_drawn_ (G := GW G q c1 c2 c3 hf hc b4 ha b5 cm b6 sp b7 b8 ln b9 r0 r1 b10 p0 p1) (w := w00) (show gN (GW G q c1 c2 c3 hf hc b4 ha b5 cm b6 sp b7 b8 ln b9 r0 r1 b10 p0 p1) ≤ 260 from hN) a0_aX A0_DI rfl (fun w2 A v2 v3 v4 v5 v6 v7 v8 hX hA hcn hdw hT => ?_)))
  · match i, hv with
    | 0, hv => cases hv; exact List.mem_of_getElem? (i := 1) (by rw [← hb]; rfl)
    | 1, hv => cases hv; exact List.mem_of_getElem? (i := 0) rfl
    | 2, hv => cases hv
    | 3, hv => cases hv
    | 4, hv => cases hv
    | 5, hv => cases hv
    | 6, hv => cases hv
    | 7, hv => cases hv
    | 8, hv => cases hv
    | k + 9, hv => cases hv
  · refine ev_aload_n dL_drawn_353 rfl ?_
    exact ev_aretN ⟨_, rfl⟩ dL_drawn_354 rfl ⟨hT, A, hX, hA, hcn, hdw⟩
/-! the law -/
set_option maxRecDepth 8000 in
theorem law_walk {G : GX} (hflag : (gL G).stackTraces = false) (hG : gA G 1000 < gZ G) (hN : gN G ≤ 260) {bb : Nat} (hb : gA G 1000 = bb) {Z : ZT} (K : ∀ (G2 : GX) (w : WS) (b' : Nat) (ls : List (Option Value)), isGW G G2 → Ev G2 24 b' mL_law 57 ls [.int (nI 1)] w Z) : Ec G 24 400000 mL_law 0 [(0, .ref bb)] [] [] Z := by
  refine kc_aload dL_law_0 0 rfl ?_
  refine kn_call (as := [.ref bb]) (ls := [some (.ref 1000), none]) rfl kL_203 hG (gL_drawn hflag hG hN hb) dL_law_1 rfl (by decide) (by decide) (fun G2 hw i v hv => ?_) (fun G2 w hw hok hpo => ?_)
  · obtain ⟨f, rfl⟩ := hw
    match i, hv with
    | 0, hv => cases hv; exact List.mem_of_getElem? (i := 0) (by rw [← hb]; rfl)
    | 1, hv => cases hv
    | k + 2, hv => cases hv
  · obtain ⟨hT, A, hX, hA, hcn, hdw⟩ := hpo
    have hN2 : gN G2 ≤ 260 := by
      obtain ⟨f, rfl⟩ := hw
      exact hN
    refine ev_ast1 dL_law_4 (by decide) rfl ?_
    refine ev_aload_n dL_law_5 rfl ?_
    refine ev_ifnull dL_law_6 ?_
    refine ev_aload_n dL_law_9 rfl ?_
    refine ev_callSP kL_207 (as := [.ref 0]) (rest := []) (gL_realms hX hcn) dL_law_10 rfl (by decide) (by decide) rfl (fun r0 w1 hp => ?_)
    obtain ⟨rfl, hX, -⟩ := hp
    refine ev_if_eq_f (tgt := 56) dL_law_13 (by decide) (by decide) ?_
    refine ev_aload_n dL_law_16 rfl ?_
    refine ev_callSP kL_211 (as := [.ref 0]) (rest := []) (gL_folds hX) dL_law_17 rfl (by decide) (by decide) rfl (fun r0 w1 hp => ?_)
    obtain ⟨rfl, hX, -⟩ := hp
    refine ev_if_eq_f (tgt := 56) dL_law_20 (by decide) (by decide) ?_
    refine ev_aload_n dL_law_23 rfl ?_
    refine ev_callSP kL_214 (as := [.ref 0]) (rest := []) (gL_rivers hX) dL_law_24 rfl (by decide) (by decide) rfl (fun r0 w1 hp => ?_)
    obtain ⟨rfl, hX, -⟩ := hp
    refine ev_if_eq_f (tgt := 56) dL_law_27 (by decide) (by decide) ?_
    refine ev_aload_n dL_law_30 rfl ?_
    refine ev_callSP kL_217 (as := [.ref 0]) (rest := []) (gL_dragons hX hdw) dL_law_31 rfl (by decide) (by decide) rfl (fun r0 w1 hp => ?_)
    obtain ⟨rfl, hX, -⟩ := hp
    refine ev_if_eq_f (tgt := 56) dL_law_34 (by decide) (by decide) ?_
    refine ev_aload_n dL_law_37 rfl ?_
    refine ev_callSP kL_220 (as := [.ref 0]) (rest := []) (gL_lines hX) dL_law_38 rfl (by decide) (by decide) rfl (fun r0 w1 hp => ?_)
    obtain ⟨rfl, -, Lq, hX⟩ := hp
    refine ev_if_eq_f (tgt := 56) dL_law_41 (by decide) (by decide) ?_
    refine ev_aload_n dL_law_44 rfl ?_
    refine ev_aload_n dL_law_45 rfl ?_
    refine ev_callSP kL_223 (as := [.ref 1000, .ref 0]) (rest := []) (gL_undone hN2 hX hA) dL_law_46 rfl (by decide) (by decide) rfl (fun r0 w1 hp => ?_)
    obtain ⟨rfl, -⟩ := hp
    refine ev_if_eq_f (tgt := 56) dL_law_49 (by decide) (by decide) ?_
    refine ev_iconst dL_law_52 ic1 ?_
    refine ev_goto (tgt := 57) dL_law_53 (by decide) ?_
    exact K G2 w1 _ _ hw
