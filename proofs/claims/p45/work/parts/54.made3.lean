/-! constructors: links -/
def iln_ (own : String) (idx : Nat) (M : MT) (n : Nat) : Prop := cw_ M ∈ gd_ ∧ cw_ M = .code M.1 M.2.1 M.2.2.1 M.2.2.2.1 ∧ Cond.methodLinkNest own idx M.1 "MapScales" ∈ tables_1 ∧ Cond.instanceMethod M.1 ∈ gd_ ∧ Cond.initialized M.1.cls ∈ gd_ ∧ M.1.cls ≠ "java/lang/invoke/MethodHandle" ∧ M.1.cls ≠ "java/lang/invoke/VarHandle" ∧ (parseMethodDescriptor M.1.desc).map (fun d => d.parameters.length) = some n ∧ M.2.2.1 ≤ 40 ∧ M.1.name = "<init>" ∧ M.2.2.2.1 = none
theorem kc_initN {G : GX} {d b : Nat} {M : MT} {pc : Nat} {L : List (Nat × Value)} {st : List Value} {ws : va_W} {Z : ZT} {d' b' idx n q : Nat} {M' : MT} {as : List Value} {post : va_W → Prop} (hl : iln_ M.1.cls idx M' n) (hG : gA G 1000 < gZ G) (hc : BigC G d' b' M' (.ref q :: as) ws post) (hd : decode M.2.1 pc = .ok (.invokespecial idx, 3)) (hn : as.length = n) (hlt : d' < d) (hb : b' ≤ b) (hm : sm_ st = true)
    (K : ∀ ws', post ws' → Ec G d (b - b') M (pc + 3) L st ws' Z) : Ec G d b M pc L (as.reverse ++ .ref q :: st) ws Z := by
  intro p e R s m args below meth c H locs cells slots lsA C r hP hD hS hL
  obtain ⟨h1, h2, h3, h4, h5, h6, h7, h8, h9, h10, h11⟩ := hl
  have hts := C.2.2.2.2.2.2.1
  have hm : (st.map fun v => v.category).sum ≤ 8 := of_decide_eq_true hm
  have hnl := C.2.2.2.2.2.2.2.2.2.1.2.2.2.2.2.2.2.2.2.1 _ _ _ _ h3
  refine kc_back (va_runIN (As := as) (rest := st) ⟨C.2.1, C.2.2.1, C.2.2.2.1, C.2.2.2.2.2.1, hts⟩ (hc hG hD) ⟨va_cnB (ws' := gd_) n hts (gd_in h1) (by unfold ws_; rw [h2, h11]) rfl rfl hnl (hts _ h5) ⟨h6, h7, h8⟩ ⟨fo_ok r.1 hlt, lo_ok r.2.1 hlt h9⟩, h10, hts _ h4⟩ ⟨pcC_blind, fun U hU hW => ⟨rfl, ⟨by rw [hU]; exact hP, by rw [hU]; exact Nat.le_trans C.1 hS.1⟩, bs_mv C.2.2.2.2.2.2.2.2.2 hW hS hU hG⟩⟩ rfl hn hL.1 rfl ?_ hd (rm_fit r hb)) hS (fun H1 locs1 ws' hpo hP1 hD1 hS1 => ?_)
  · simp only [JFrame.monitorRoom]
    simp
    omega
  · exact K ws' hpo p e R s m args below meth c H1 locs1 _ _ lsA C (rm_after r hb) hP1 hD1 hS1 hL
theorem ra_c : ∀ (U : State) (c1 c2 : ClassId), va_RA U c1 .char → va_RA U c2 .char → c1 = c2 := fun U c1 c2 h1 h2 => Option.some.inj ((show U.vm.findClass _ = some c1 from h1).symm.trans h2)
theorem ac_c : Cond.arrayClass (newarray.typeOf .char) ∈ gd_ := gc1 202 (by decide +kernel) rfl
theorem ob_X1 : Cond.methodLink RX1 3 Lib.objectInit ∈ gd_ := gc1 51 (by decide +kernel) rfl
abbrev df_X1 : List Value := [.null, .null, .null, .null, .null, .null, .null, .null, .null, .null, .int 0, .int 0, .int 0, .int 0, .int 0, .int 0, .int 0]
theorem dv_X1 : ∀ j, j < 17 → defaultValue (tyX1 j) = vp_V df_X1 j := by decide +kernel
theorem ob_X2 : Cond.methodLink RX2 3 Lib.objectInit ∈ gd_ := gc1 150 (by decide +kernel) rfl
abbrev df_X2 : List Value := [.int 0, .int 0, .int 0, .int 0, .null]
theorem dv_X2 : ∀ j, j < 5 → defaultValue (tyX2 j) = vp_V df_X2 j := by decide +kernel
theorem ob_X4 : Cond.methodLink RX4 3 Lib.objectInit ∈ gd_ := gc1 130 (by decide +kernel) rfl
abbrev df_X4 : List Value := [.null, .int 0, .int 0]
theorem dv_X4 : ∀ j, j < 3 → defaultValue (tyX4 j) = vp_V df_X4 j := by decide +kernel
theorem ob_X6 : Cond.methodLink RX6 3 Lib.objectInit ∈ gd_ := gc1 237 (by decide +kernel) rfl
abbrev df_X6 : List Value := [.null, .null]
theorem dv_X6 : ∀ j, j < 2 → defaultValue (tyX6 j) = vp_V df_X6 j := by decide +kernel
theorem ob_X7 : Cond.methodLink RX7 3 Lib.objectInit ∈ gd_ := gc1 186 (by decide +kernel) rfl
abbrev df_X7 : List Value := [.null, .int 0]
theorem dv_X7 : ∀ j, j < 2 → defaultValue (tyX7 j) = vp_V df_X7 j := by decide +kernel
theorem ob_X8 : Cond.methodLink RX8 3 Lib.objectInit ∈ gd_ := gc1 218 (by decide +kernel) rfl
abbrev df_X8 : List Value := [.null, .null, .int 0]
theorem dv_X8 : ∀ j, j < 3 → defaultValue (tyX8 j) = vp_V df_X8 j := by decide +kernel
theorem ob_X9 : Cond.methodLink RX9 3 Lib.objectInit ∈ gd_ := gc1 192 (by decide +kernel) rfl
abbrev df_X9 : List Value := [.null, .int 0]
theorem dv_X9 : ∀ j, j < 2 → defaultValue (tyX9 j) = vp_V df_X9 j := by decide +kernel
theorem ob_X11 : Cond.methodLink RX11 1 Lib.objectInit ∈ gd_ := gc1 43 (by decide +kernel) rfl
abbrev df_X11 : List Value := [.null, .null, .null, .int 0, .null, .null, .null, .null, .null, .null, .null, .int 0]
theorem dv_X11 : ∀ j, j < 12 → defaultValue (tyX11 j) = vp_V df_X11 j := by decide +kernel
theorem mk_X11_7 : mk_ RX11 7 3 df_X1 := ⟨RX1, TX1, 17, tyX1, rfl, guX1, tyX1_ok, (gc1 46 (by decide +kernel) rfl), (gc1 47 (by decide +kernel) rfl), (gc1 2 (by decide +kernel) rfl), dv_X1, by decide⟩
theorem mk_X11_22 : mk_ RX11 22 5 df_X4 := ⟨RX4, TX4, 3, tyX4, rfl, guX4, tyX4_ok, (gc1 125 (by decide +kernel) rfl), (gc1 126 (by decide +kernel) rfl), (gc1 4 (by decide +kernel) rfl), dv_X4, by decide⟩
theorem mk_X11_29 : mk_ RX11 29 4 df_X2 := ⟨RX2, TX2, 5, tyX2, rfl, guX2, tyX2_ok, (gc1 145 (by decide +kernel) rfl), (gc1 146 (by decide +kernel) rfl), (gc1 5 (by decide +kernel) rfl), dv_X2, by decide⟩
theorem mk_X11_36 : mk_ RX11 36 7 df_X7 := ⟨RX7, TX7, 2, tyX7, rfl, guX7, tyX7_ok, (gc1 181 (by decide +kernel) rfl), (gc1 182 (by decide +kernel) rfl), (gc1 6 (by decide +kernel) rfl), dv_X7, by decide⟩
theorem mk_X11_50 : mk_ RX11 50 9 df_X9 := ⟨RX9, TX9, 2, tyX9, rfl, guX9, tyX9_ok, (gc1 211 (by decide +kernel) rfl), (gc1 188 (by decide +kernel) rfl), (gc1 7 (by decide +kernel) rfl), dv_X9, by decide⟩
theorem mk_X7_9 : mk_ RX7 9 9 df_X9 := ⟨RX9, TX9, 2, tyX9, rfl, guX9, tyX9_ok, (gc1 187 (by decide +kernel) rfl), (gc1 188 (by decide +kernel) rfl), (gc1 7 (by decide +kernel) rfl), dv_X9, by decide⟩
theorem mk_X11_56 : mk_ RX11 56 8 df_X8 := ⟨RX8, TX8, 3, tyX8, rfl, guX8, tyX8_ok, (gc1 213 (by decide +kernel) rfl), (gc1 214 (by decide +kernel) rfl), (gc1 8 (by decide +kernel) rfl), dv_X8, by decide⟩
theorem mk_X11_63 : mk_ RX11 63 6 df_X6 := ⟨RX6, TX6, 2, tyX6, rfl, guX6, tyX6_ok, (gc1 232 (by decide +kernel) rfl), (gc1 233 (by decide +kernel) rfl), (gc1 9 (by decide +kernel) rfl), dv_X6, by decide⟩
theorem mk_X4_9 : mk_ RX4 9 3 df_X1 := ⟨RX1, TX1, 17, tyX1, rfl, guX1, tyX1_ok, (gc1 131 (by decide +kernel) rfl), (gc1 47 (by decide +kernel) rfl), (gc1 2 (by decide +kernel) rfl), dv_X1, by decide⟩
theorem mk_L_9 : mk_ RL 9 10 df_X11 := ⟨RX11, TX11, 12, tyX11, rfl, guX11, tyX11_ok, (gc1 38 (by decide +kernel) rfl), (gc1 39 (by decide +kernel) rfl), (gc1 1 (by decide +kernel) rfl), dv_X11, by decide⟩
theorem il_X11_9 : il_ RX11 9 mX1_init 0 := ⟨wX1_init, rfl, (gc1 48 (by decide +kernel) rfl), (gc1 49 (by decide +kernel) rfl), (gc1 2 (by decide +kernel) rfl), by decide +kernel, by decide +kernel, by decide +kernel, by decide +kernel, rfl, rfl⟩
theorem il_X11_24 : il_ RX11 24 mX4_init 0 := ⟨wX4_init, rfl, (gc1 127 (by decide +kernel) rfl), (gc1 128 (by decide +kernel) rfl), (gc1 4 (by decide +kernel) rfl), by decide +kernel, by decide +kernel, by decide +kernel, by decide +kernel, rfl, rfl⟩
theorem il_X4_17 : il_ RX4 17 mX1_init 0 := ⟨wX1_init, rfl, (gc1 133 (by decide +kernel) rfl), (gc1 49 (by decide +kernel) rfl), (gc1 2 (by decide +kernel) rfl), by decide +kernel, by decide +kernel, by decide +kernel, by decide +kernel, rfl, rfl⟩
theorem il_L_154 : il_ RL 154 mX11_init 0 := ⟨wX11_init, rfl, (gc1 40 (by decide +kernel) rfl), (gc1 41 (by decide +kernel) rfl), (gc1 1 (by decide +kernel) rfl), by decide +kernel, by decide +kernel, by decide +kernel, by decide +kernel, rfl, rfl⟩
theorem iln_X11_31 : iln_ RX11 31 mX2_init 0 := ⟨wX2_init, rfl, (tc1 147 (by decide +kernel)), (gc1 148 (by decide +kernel) rfl), (gc1 5 (by decide +kernel) rfl), by decide +kernel, by decide +kernel, by decide +kernel, by decide +kernel, rfl, rfl⟩
theorem iln_X11_38 : iln_ RX11 38 mX7_init 0 := ⟨wX7_init, rfl, (tc1 183 (by decide +kernel)), (gc1 184 (by decide +kernel) rfl), (gc1 6 (by decide +kernel) rfl), by decide +kernel, by decide +kernel, by decide +kernel, by decide +kernel, rfl, rfl⟩
theorem iln_X11_52 : iln_ RX11 52 mX9_init 0 := ⟨wX9_init, rfl, (tc1 212 (by decide +kernel)), (gc1 190 (by decide +kernel) rfl), (gc1 7 (by decide +kernel) rfl), by decide +kernel, by decide +kernel, by decide +kernel, by decide +kernel, rfl, rfl⟩
theorem iln_X7_11 : iln_ RX7 11 mX9_init 0 := ⟨wX9_init, rfl, (tc1 189 (by decide +kernel)), (gc1 190 (by decide +kernel) rfl), (gc1 7 (by decide +kernel) rfl), by decide +kernel, by decide +kernel, by decide +kernel, by decide +kernel, rfl, rfl⟩
theorem iln_X11_58 : iln_ RX11 58 mX8_init 0 := ⟨wX8_init, rfl, (tc1 215 (by decide +kernel)), (gc1 216 (by decide +kernel) rfl), (gc1 8 (by decide +kernel) rfl), by decide +kernel, by decide +kernel, by decide +kernel, by decide +kernel, rfl, rfl⟩
theorem iln_X11_65 : iln_ RX11 65 mX6_init 0 := ⟨wX6_init, rfl, (tc1 234 (by decide +kernel)), (gc1 235 (by decide +kernel) rfl), (gc1 9 (by decide +kernel) rfl), by decide +kernel, by decide +kernel, by decide +kernel, by decide +kernel, rfl, rfl⟩
theorem kc_loc {G : GX} {d b : Nat} {M : MT} {pc : Nat} {L L' : List (Nat × Value)} {st : List Value} {ws : va_W} {Z : ZT} (hs : ∀ x ∈ L', x ∈ L) (K : Ec G d b M pc L' st ws Z) : Ec G d b M pc L st ws Z := by
  intro p e R s m args below meth c H locs cells slots lsA C r hP hD hS hL
  exact K p e R s m args below meth c H locs cells slots lsA C r hP hD hS ⟨hL.1, hL.2.1, fun q hq => hL.2.2 q (hs q hq)⟩
theorem list_set_self {α : Type} {l : List α} {k : Nat} {x : α} (h : l[k]? = some x) : l.set k x = l := by
  apply List.ext_getElem?
  intro i
  rw [List.getElem?_set]
  by_cases e : k = i
  · subst e
    rw [if_pos rfl, if_pos (List.getElem?_eq_some_iff.mp h).1, h]
  · rw [if_neg e]
theorem kJ7_fill {G : GX} {ws : va_W} {k a n : Nat} {v : Int32} {f : Nat → Int32} (ha : ws[k]? = some (a, .inl (gC G 0, n, .inl f))) (hn : n ≤ 1000) : BigC G 0 0 mJ7_fill_53178 [.ref a, .int v] ws (fun ws' => ws' = ws.set k (a, .inl (gC G 0, n, .inl (fun j => if j < n then v else f j)))) := by
  refine kc_of (by decide +kernel) rfl (Nat.le_of_ble_eq_true rfl) ?_
  show Ec G 0 0 mJ7_fill_53178 0 [(0, .ref a), (1, .int v)] [] ws _
  refine kc_iconst dJ7_fill_53178_0 ic0 ?_
  refine kc_ist (k := 2) dJ7_fill_53178_1 (by decide) rfl ?_
  refine kc_aload dJ7_fill_53178_2 1 rfl ?_
  refine kc_alen (t := 0) ha rfl dJ7_fill_53178_3 ?_
  refine kc_ist (k := 3) dJ7_fill_53178_4 (by decide) rfl ?_
  show Ec G 0 0 mJ7_fill_53178 5 [(3, .int (nI n)), (2, .int (nI 0)), (0, .ref a), (1, .int v)] [] ws _
  have hk : k < ws.length := (List.getElem?_eq_some_iff.mp ha).1
  have lp : ∀ (r i : Nat) (L : List (Nat × Value)), i + r = n → L[0]? = some (2, .int (nI i)) ∧ L[1]? = some (3, .int (nI n)) ∧ L[2]? = some (0, .ref a) ∧ L[3]? = some (1, .int v) ∧ L.length = 4 → Ec G 0 0 mJ7_fill_53178 5 L [] (ws.set k (a, .inl (gC G 0, n, .inl (fun j => if j < i then v else f j)))) (zc_ G (fun ws' => ws' = ws.set k (a, .inl (gC G 0, n, .inl (fun j => if j < n then v else f j))))) := by
    intro r
    induction r with
    | zero =>
      intro i L hi hL
      obtain rfl : i = n := by omega
      refine kc_iload dJ7_fill_53178_5 0 hL.1 ?_
      refine kc_iload dJ7_fill_53178_6 1 hL.2.1 ?_
      refine kc_ge_t (tgt := 20) dJ7_fill_53178_7 (by decide) (Int32.le_refl _) ?_
      exact kc_ret dJ7_fill_53178_20 rfl rfl
    | succ r ih =>
      intro i L hi hL
      refine kc_iload dJ7_fill_53178_5 0 hL.1 ?_
      refine kc_iload dJ7_fill_53178_6 1 hL.2.1 ?_
      refine kc_ge_f (tgt := 20) dJ7_fill_53178_7 (by decide) (nI_ge (by omega) (by omega)) ?_
      refine kc_aload dJ7_fill_53178_10 2 hL.2.2.1 ?_
      refine kc_iload dJ7_fill_53178_11 0 hL.1 ?_
      refine kc_iload dJ7_fill_53178_12 3 hL.2.2.2.1 ?_
      refine kc_iast (k := k) (t := 0) (a := a) (n := n) (cA := gC G 0) (f := fun j => if j < i then v else f j) (by simp [hk]) rfl rfl (by omega) (by omega) dJ7_fill_53178_13 ?_
      refine kc_w (ws' := ws.set k (a, .inl (gC G 0, n, .inl (fun j => if j < i + 1 then v else f j)))) (by
        rw [List.set_set, show upd (fun j => if j < i then v else f j) i v = (fun j => if j < i + 1 then v else f j) from by
          funext j
          unfold upd
          by_cases e : j = i
          · rw [if_pos e, if_pos (by omega)]
          · rw [if_neg e]
            show (if j < i then v else f j) = _
            by_cases e2 : j < i
            · rw [if_pos e2, if_pos (by omega)]
            · rw [if_neg e2, if_neg (by omega)]]) ?_
      obtain ⟨l0, l1, l2, l3, l4⟩ := hL
      match L, l0, l1, l2, l3, l4 with
      | [x0, x1, x2, x3], l0, l1, l2, l3, _ =>
        cases l0
        cases l1
        cases l2
        cases l3
        refine kc_iinc (k := 0) dJ7_fill_53178_14 rfl (nI_inc i) (by decide) rfl ?_
        refine kc_goto (tgt := 5) dJ7_fill_53178_17 (by decide) ?_
        exact ih (i + 1) _ (by omega) ⟨rfl, rfl, rfl, rfl, rfl⟩
  have q := lp n 0 [(2, .int (nI 0)), (3, .int (nI n)), (0, .ref a), (1, .int v)] (Nat.zero_add n) ⟨rfl, rfl, rfl, rfl, rfl⟩
  have e0 : ws.set k (a, .inl (gC G 0, n, .inl (fun j => if j < 0 then v else f j))) = ws := by
    rw [show (fun j => if j < 0 then v else f j) = f from by funext j; rw [if_neg (Nat.not_lt_zero j)]]
    exact list_set_self ha
  rw [e0] at q
  exact kc_loc (fun x hx => by simp only [List.mem_cons] at hx ⊢; rcases hx with h | h | h | h | h <;> simp [h]) q
set_option maxRecDepth 4000 in
theorem kX2_init {G : GX} (hG : gA G 1000 < gZ G) {pre : va_W} {q : Nat}  : BigC G 1 20 mX2_init [.ref q] (pre ++ [(q, .inr (4, df_X2))]) (fun ws' => ∃ a0, ws' = pre ++ [(q, .inr (4, [.int 0, .int 0, .int 0, .int 0, .ref a0])), (a0, .inl (gC G 0, 12, .inl (fun _ => 0)))]) := by
  refine kc_of (by decide +kernel) rfl (Nat.le_of_ble_eq_true rfl) ?_
  show Ec G 1 20 mX2_init 0 [(0, .ref q)] [] (pre ++ (q, .inr (4, df_X2)) :: []) _
  refine kc_aload dX2_init_0 0 rfl ?_
  refine kc_obj ob_X2 oi_2 oi_3 dX2_init_1 rfl ?_
  refine kc_aload dX2_init_4 0 rfl ?_
  refine kc_bipush (v := nI 12) dX2_init_5 (by decide) ?_
  refine kc_newa (at_ := .int) (t := 0) (zz := .inl (fun _ => 0)) ac_i rfl rfl ra_i (fun _ => rfl) (by decide) (by decide) (by decide) dX2_init_7 (fun a0 => ?_)
  refine kc_w mid_app ?_
  refine kc_putF fX2_9 rfl (fun C T N h => by cases h; rfl) dX2_init_9 rfl rfl (Nat.le_of_ble_eq_true rfl) ?_
  exact kc_ret dX2_init_12 rfl ⟨a0, rfl⟩
set_option maxRecDepth 4000 in
theorem kX6_init {G : GX} (hG : gA G 1000 < gZ G) {pre : va_W} {q : Nat}  : BigC G 1 140 mX6_init [.ref q] (pre ++ [(q, .inr (6, df_X6))]) (fun ws' => ∃ a0 a1, ws' = pre ++ [(q, .inr (6, [.ref a0, .ref a1])), (a0, .inl (gC G 0, 64, .inl (fun _ => 0))), (a1, .inl (gC G 0, 64, .inl (fun _ => 0)))]) := by
  refine kc_of (by decide +kernel) rfl (Nat.le_of_ble_eq_true rfl) ?_
  show Ec G 1 140 mX6_init 0 [(0, .ref q)] [] (pre ++ (q, .inr (6, df_X6)) :: []) _
  refine kc_aload dX6_init_0 0 rfl ?_
  refine kc_obj ob_X6 oi_2 oi_3 dX6_init_1 rfl ?_
  refine kc_aload dX6_init_4 0 rfl ?_
  refine kc_bipush (v := nI 64) dX6_init_5 (by decide) ?_
  refine kc_newa (at_ := .int) (t := 0) (zz := .inl (fun _ => 0)) ac_i rfl rfl ra_i (fun _ => rfl) (by decide) (by decide) (by decide) dX6_init_7 (fun a0 => ?_)
  refine kc_w mid_app ?_
  refine kc_putF fX6_9 rfl (fun C T N h => by cases h; rfl) dX6_init_9 rfl rfl (Nat.le_of_ble_eq_true rfl) ?_
  refine kc_aload dX6_init_12 0 rfl ?_
  refine kc_bipush (v := nI 64) dX6_init_13 (by decide) ?_
  refine kc_newa (at_ := .int) (t := 0) (zz := .inl (fun _ => 0)) ac_i rfl rfl ra_i (fun _ => rfl) (by decide) (by decide) (by decide) dX6_init_15 (fun a1 => ?_)
  refine kc_w mid_app ?_
  refine kc_putF fX6_15 rfl (fun C T N h => by cases h; rfl) dX6_init_17 rfl rfl (Nat.le_of_ble_eq_true rfl) ?_
  exact kc_ret dX6_init_20 rfl ⟨a0, a1, rfl⟩
set_option maxRecDepth 4000 in
theorem kX8_init {G : GX} (hG : gA G 1000 < gZ G) {pre : va_W} {q : Nat}  : BigC G 1 20 mX8_init [.ref q] (pre ++ [(q, .inr (8, df_X8))]) (fun ws' => ∃ a0 a1, ws' = pre ++ [(q, .inr (8, [.ref a0, .ref a1, .int 0])), (a0, .inl (gC G 0, 3, .inl (fun _ => 0))), (a1, .inl (gC G 0, 3, .inl (fun _ => 0)))]) := by
  refine kc_of (by decide +kernel) rfl (Nat.le_of_ble_eq_true rfl) ?_
  show Ec G 1 20 mX8_init 0 [(0, .ref q)] [] (pre ++ (q, .inr (8, df_X8)) :: []) _
  refine kc_aload dX8_init_0 0 rfl ?_
  refine kc_obj ob_X8 oi_2 oi_3 dX8_init_1 rfl ?_
  refine kc_aload dX8_init_4 0 rfl ?_
  refine kc_iconst dX8_init_5 ic3 ?_
  refine kc_newa (at_ := .int) (t := 0) (zz := .inl (fun _ => 0)) ac_i rfl rfl ra_i (fun _ => rfl) (by decide) (by decide) (by decide) dX8_init_6 (fun a0 => ?_)
  refine kc_w mid_app ?_
  refine kc_putF fX8_9 rfl (fun C T N h => by cases h; rfl) dX8_init_8 rfl rfl (Nat.le_of_ble_eq_true rfl) ?_
  refine kc_aload dX8_init_11 0 rfl ?_
  refine kc_iconst dX8_init_12 ic3 ?_
  refine kc_newa (at_ := .int) (t := 0) (zz := .inl (fun _ => 0)) ac_i rfl rfl ra_i (fun _ => rfl) (by decide) (by decide) (by decide) dX8_init_13 (fun a1 => ?_)
  refine kc_w mid_app ?_
  refine kc_putF fX8_15 rfl (fun C T N h => by cases h; rfl) dX8_init_15 rfl rfl (Nat.le_of_ble_eq_true rfl) ?_
  exact kc_ret dX8_init_18 rfl ⟨a0, a1, rfl⟩
set_option maxRecDepth 4000 in
theorem kX9_init {G : GX} (hG : gA G 1000 < gZ G) {pre : va_W} {q : Nat}  : BigC G 1 70 mX9_init [.ref q] (pre ++ [(q, .inr (9, df_X9))]) (fun ws' => ∃ a0, ws' = pre ++ [(q, .inr (9, [.ref a0, .int 0])), (a0, .inl (gC G 1, 60, .inl (fun _ => 0)))]) := by
  refine kc_of (by decide +kernel) rfl (Nat.le_of_ble_eq_true rfl) ?_
  show Ec G 1 70 mX9_init 0 [(0, .ref q)] [] (pre ++ (q, .inr (9, df_X9)) :: []) _
  refine kc_aload dX9_init_0 0 rfl ?_
  refine kc_obj ob_X9 oi_2 oi_3 dX9_init_1 rfl ?_
  refine kc_aload dX9_init_4 0 rfl ?_
  refine kc_bipush (v := nI 60) dX9_init_5 (by decide) ?_
  refine kc_newa (at_ := .char) (t := 1) (zz := .inl (fun _ => 0)) ac_c rfl rfl ra_c (fun _ => rfl) (by decide) (by decide) (by decide) dX9_init_7 (fun a0 => ?_)
  refine kc_w mid_app ?_
  refine kc_putF fX9_9 rfl (fun C T N h => by cases h; rfl) dX9_init_9 rfl rfl (Nat.le_of_ble_eq_true rfl) ?_
  exact kc_ret dX9_init_12 rfl ⟨a0, rfl⟩
theorem kc_gat {G : GX} {d b : Nat} {M : MT} {pc : Nat} {L : List (Nat × Value)} {st : List Value} {ws : va_W} {Z : ZT} {q ci : Nat} {fs : List Value} {i j : Nat} {v : Value} {fin : Bool} {ty : FieldType} (k : Nat) (hf : fl_ M.1.cls i ci j fin ty) (ha : ws[k]? = some (q, .inr (ci, fs))) (hd : decode M.2.1 pc = .ok (.getfield i, 3)) (hv : fs[j]? = some v) (K : Ec G d b M (pc + 3) L (v :: st) ws Z) : Ec G d b M pc L (.ref q :: st) ws Z := by
  intro p e R s m args below meth c H locs cells slots lsA C rr hP hD hS hL
  obtain ⟨C1, T1, N, ty0, h1, h2, h3, h4, h5, h6, h7, h8⟩ := hf
  exact va_get C.2.1 C.2.2.1 C.2.2.2.2.2.2.1 h3 C.2.2.2.2.2.1 (bsK C.2.2.2.2.2.2.2.2.2) hP k ha h1 j h2 (C.2.2.2.2.2.2.1 _ h4) (fun _ h => h) hv hd (K p e R s m args below meth c H locs cells slots lsA C rr hP hD hS hL)
theorem mid_app3 {α : Type} {pre r l : List α} {x : α} : (pre ++ x :: r) ++ l = pre ++ x :: (r ++ l) := by simp
set_option maxRecDepth 4000 in
theorem kX7_init {G : GX} (hG : gA G 1000 < gZ G) {pre : va_W} {q : Nat} : BigC G 2 90 mX7_init [.ref q] (pre ++ [(q, .inr (7, df_X7))]) (fun ws' => ∃ a0 a1, ws' = pre ++ [(q, .inr (7, [.ref a0, .int 0])), (a0, .inr (9, [.ref a1, .int 0])), (a1, .inl (gC G 1, 60, .inl (fun _ => 0)))]) := by
  refine kc_of (by decide +kernel) rfl (Nat.le_of_ble_eq_true rfl) ?_
  show Ec G 2 90 mX7_init 0 [(0, .ref q)] [] (pre ++ (q, .inr (7, df_X7)) :: []) _
  refine kc_aload dX7_init_0 0 rfl ?_
  refine kc_obj ob_X7 oi_2 oi_3 dX7_init_1 rfl ?_
  refine kc_aload dX7_init_4 0 rfl ?_
  refine kc_new mk_X7_9 (by decide) dX7_init_5 (fun a0 => ?_)
  refine kc_dup dX7_init_8 ?_
  refine kc_initN (as := []) (st := [.ref a0, .ref q]) iln_X7_11 hG (kX9_init hG) dX7_init_9 rfl (by decide) (by decide) rfl (fun w0 h0 => ?_)
  obtain ⟨a1, e1⟩ := h0
  refine kc_w (e1.trans mid_app3) ?_
  refine kc_putF fX7_12 rfl (fun C T N h => by cases h; rfl) dX7_init_12 rfl rfl (Nat.le_of_ble_eq_true rfl) ?_
  exact kc_ret dX7_init_15 rfl ⟨a0, a1, rfl⟩
