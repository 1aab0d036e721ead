/-! the two strings that the reference asks -/
theorem ev_gcomp {G : GX} {d b : Nat} {M : MT} {pc : Nat} {ls : List (Option Value)} {st : List Value} {w : WS} {Z : ZT} (hM : M.1.cls = "java/lang/String") (hd : decode M.2.1 pc = .ok (.getstatic 38, 3)) (K : Ev G d b M (pc + 3) ls (.int 1 :: st) w Z) : Ev G d b M pc ls st w Z := by
  intro p e R s m args below meth c H locs cells slots lsA C r hP hS hL
  have hB := C.2.2.2.2.2.2.2.2.2.2.2.2.2.2.1.1
  exact va_gets (own := "java/lang/String") C.2.1 C.2.2.1 hB hS (by rw [← hM]; exact C.2.2.2.2.2.1) (C.2.2.2.2.2.2.1 _ (gc6 168 (by decide +kernel) rfl)) (fun _ h => h) hd (K p e R s m args below meth c H locs cells slots lsA C r hP hS hL)
theorem ev_gfmt {G : GX} {d b : Nat} {M : MT} {pc : Nat} {ls : List (Option Value)} {st : List Value} {w : WS} {Z : ZT} (hM : M.1.cls = "java/lang/String") (hd : decode M.2.1 pc = .ok (.getstatic 1053, 3)) (K : ∀ x : Value, (x = .null ∨ x = .ref 4000) → Ev G d b M (pc + 3) ls (x :: st) w Z) : Ev G d b M pc ls st w Z := by
  intro p e R s m args below meth c H locs cells slots lsA C r hP hS hL
  obtain ⟨x, hx, hB⟩ := C.2.2.2.2.2.2.2.2.2.2.2.2.2.2.1.2
  exact va_gets (own := "java/lang/String") C.2.1 C.2.2.1 hB hS (by rw [← hM]; exact C.2.2.2.2.2.1) (C.2.2.2.2.2.2.1 _ (gc6 207 (by decide +kernel) rfl)) (fun _ h => h) hd (K x hx p e R s m args below meth c H locs cells slots lsA C r hP hS hL)
theorem ev_scod {G : GX} {d b : Nat} {M : MT} {pc : Nat} {ls : List (Option Value)} {st : List Value} {w : WS} {Z : ZT} {i : Nat} (hi : i < 2) (hM : M.1.cls = "java/lang/String") (hd : decode M.2.1 pc = .ok (.getfield 15, 3)) (K : Ev G d b M (pc + 3) ls (.int 0 :: st) w Z) : Ev G d b M pc ls (.ref (2000 + i) :: st) w Z := by
  intro p e R s m args below meth c H locs cells slots lsA C r hP hS hL
  exact vk_getf (own := "java/lang/String") C.2.1 C.2.2.1 ((bs_S C.2.2.2.2.2.2.2.2.2).1 i hi).2.1 hS (by rw [← hM]; exact C.2.2.2.2.2.1) (C.2.2.2.2.2.2.1 _ (gc8 67 (by decide +kernel) rfl)) (fun _ h => h) hd (K p e R s m args below meth c H locs cells slots lsA C r hP hS hL)
theorem ev_sval {G : GX} {d b : Nat} {M : MT} {pc : Nat} {ls : List (Option Value)} {st : List Value} {w : WS} {Z : ZT} {i : Nat} (hi : i < 2) (hM : M.1.cls = "java/lang/String") (hd : decode M.2.1 pc = .ok (.getfield 9, 3)) (K : Ev G d b M (pc + 3) ls (.ref (3000 + i) :: st) w Z) : Ev G d b M pc ls (.ref (2000 + i) :: st) w Z := by
  intro p e R s m args below meth c H locs cells slots lsA C r hP hS hL
  exact vk_getf (own := "java/lang/String") C.2.1 C.2.2.1 ((bs_S C.2.2.2.2.2.2.2.2.2).1 i hi).2.2.1 hS (by rw [← hM]; exact C.2.2.2.2.2.1) (C.2.2.2.2.2.2.1 _ (gc8 68 (by decide +kernel) rfl)) (fun _ h => h) hd (K p e R s m args below meth c H locs cells slots lsA C r hP hS hL)
theorem ev_stlen {G : GX} {d b : Nat} {M : MT} {pc : Nat} {ls : List (Option Value)} {st : List Value} {w : WS} {Z : ZT} {i : Nat} (hi : i < 2) (hd : decode M.2.1 pc = .ok (.arraylength, 1)) (K : Ev G d b M (pc + 1) ls (.int (nI (sN.getD i 0)) :: st) w Z) : Ev G d b M pc ls (.ref (3000 + i) :: st) w Z := by
  intro p e R s m args below meth c H locs cells slots lsA C r hP hS hL
  exact va_tlen C.2.1 C.2.2.1 ((bs_S C.2.2.2.2.2.2.2.2.2).1 i hi).2.2.2 hS rfl hd (K p e R s m args below meth c H locs cells slots lsA C r hP hS hL)
theorem ev_stb {G : GX} {d b : Nat} {M : MT} {pc : Nat} {ls : List (Option Value)} {st : List Value} {w : WS} {Z : ZT} {i j : Nat} {x : Int32} (hi : i < 2) (hd : decode M.2.1 pc = .ok (.baload, 1)) (hx : x = nI j) (hj : j < sN.getD i 0) (h10 : j < 10) (K : Ev G d b M (pc + 1) ls (.int ((sB.getD i []).getD j 0) :: st) w Z) : Ev G d b M pc ls (.int x :: .ref (3000 + i) :: st) w Z := by
  intro p e R s m args below meth c H locs cells slots lsA C r hP hS hL
  subst hx
  exact va_tb C.2.1 C.2.2.1 ((bs_S C.2.2.2.2.2.2.2.2.2).1 i hi).2.2.2 hS (vp_in_nI hj (by have := (by decide : ∀ i, i < 2 → sN.getD i 0 < 100) i hi; omega)) (by rw [nI_clamp (by omega)]; rfl) hd (K p e R s m args below meth c H locs cells slots lsA C r hP hS hL)
theorem ev_callVs {G : GX} {d b d' b' : Nat} {M M' : MT} {pc idx n i : Nat} {ls : List (Option Value)} {as rest : List Value} {w w' : WS} {Z : ZT} {r0 : Option Value} (hl : vl_ M.1.cls idx M' n) (hi : i < 2) (hM : M'.1.cls = "java/lang/String") (hc : Big G d' b' M' (.ref (2000 + i) :: as) w (.inl r0) w') (hd : decode M.2.1 pc = .ok (.invokevirtual idx, 3)) (hn : as.length = n) (hlt : d' < d) (hb : b' ≤ b) (hm : sm_ rest = true)
    (K : Ev G d (b - b') M (pc + 3) ls (ps_ r0 rest) w' Z) : Ev G d b M pc ls (ra_ as (.ref (2000 + i) :: rest)) w Z := by
  intro p e R s m args below meth c H locs cells slots lsA C r hP hS hL
  obtain ⟨h1, h2, h3, h4, h5, h6, h7, h8, h9⟩ := hl
  have hts := C.2.2.2.2.2.2.1
  refine ev_back (va_runV (As := as.map (cv_ G)) (rest := rest.map (cv_ G)) ⟨C.2.1, C.2.2.1, C.2.2.2.1, C.2.2.2.2.2.1, hts⟩ (met_of (hc C.1)) ⟨cb_ C r hlt h1 h2 (hts _ h3) h5 h6 h7 h8 h9, hts _ h4.1, hts _ h4.2⟩ ⟨pc_blind, by rw [hM]; exact vk_recv (i := i) (bs_S C.2.2.2.2.2.2.2.2.2) hi hS, pc_at (args := .ref (2000 + i) :: as) C.1 C.2.2.2.2.2.2.2.2.2 hP hS⟩ rfl (by rw [List.length_map]; exact hn) hL.1 (ra_map G as (.ref (2000 + i) :: rest)) ?_ hd (rm_fit r hb)) hS (fun H1 locs1 hP1 hS1 => ?_)
  · rw [cv_sum]
    simpa [sm_, JFrame.monitorRoom] using hm
  · rw [← ps_map]
    exact K p e R s m args below meth c H1 locs1 _ _ lsA C (rm_after r hb) hP1 hS1 hL
theorem i2b_ : ∀ n : Fin 128, (nI n.val).toInt8.toInt32 = nI n.val := by decide +kernel
theorem nesw_ix : ∀ n : Fin 128, (List.range 4).find? (fun k => (sB.getD 0 []).getD k 0 == nI n.val) = dO_ n.val := by decide +kernel
/-- the place of a sign among the commands' -/
def cI_ (n : Nat) : Option Nat := (List.range 7).find? (fun k => (sB.getD 1 []).getD k 0 == nI n)
theorem psm_ix : ∀ n : Fin 128, (cI_ n.val).isSome = (n.val == 112 || n.val == 115 || n.val == 109 || n.val == 114 || n.val == 107 || n.val == 100 || n.val == 102) := by decide +kernel
theorem lat_and : ∀ k : Fin 4, ((sB.getD 0 []).getD k.val 0 &&& nI 255) = nI (sgS k.val) := by decide +kernel
set_option maxRecDepth 4000 in
theorem qJ0_isLatin1_0 {G : GX} {w : WS} : Big G 1 0 mJ0_isLatin1_aae02 [.ref 2000] w (.inl (some (.int (nI 1)))) w := by
  refine big_of (by decide +kernel) (Nat.le_of_ble_eq_true rfl) ?_
  show Ev G 1 0 mJ0_isLatin1_aae02 0 [some (.ref 2000)] [] w _
  refine ev_gcomp rfl dJ0_isLatin1_aae02_0 ?_
  refine ev_if_eq_f (tgt := 17) dJ0_isLatin1_aae02_3 (by decide) (by decide) ?_
  refine ev_aload_n dJ0_isLatin1_aae02_6 rfl ?_
  refine ev_scod (i := 0) (by decide) rfl dJ0_isLatin1_aae02_7 ?_
  refine ev_if_ne_f (tgt := 17) dJ0_isLatin1_aae02_10 (by decide) rfl ?_
  refine ev_iconst dJ0_isLatin1_aae02_13 ic1 ?_
  refine ev_goto (tgt := 18) dJ0_isLatin1_aae02_14 (by decide) ?_
  exact ev_iret dJ0_isLatin1_aae02_18 rfl rfl rfl rfl
set_option maxRecDepth 4000 in
theorem qJ0_coder_0 {G : GX} {w : WS} : Big G 1 0 mJ0_coder_7d493 [.ref 2000] w (.inl (some (.int (0)))) w := by
  refine big_of (by decide +kernel) (Nat.le_of_ble_eq_true rfl) ?_
  show Ev G 1 0 mJ0_coder_7d493 0 [some (.ref 2000)] [] w _
  refine ev_gcomp rfl dJ0_coder_7d493_0 ?_
  refine ev_if_eq_f (tgt := 13) dJ0_coder_7d493_3 (by decide) (by decide) ?_
  refine ev_aload_n dJ0_coder_7d493_6 rfl ?_
  refine ev_scod (i := 0) (by decide) rfl dJ0_coder_7d493_7 ?_
  refine ev_goto (tgt := 14) dJ0_coder_7d493_10 (by decide) ?_
  exact ev_iret dJ0_coder_7d493_14 rfl (by decide) rfl rfl
set_option maxRecDepth 4000 in
theorem qJ0_length_0 {G : GX} {w : WS} : Big G 2 0 mJ0_length_8abf5 [.ref 2000] w (.inl (some (.int (nI 4)))) w := by
  refine big_of (by decide +kernel) (Nat.le_of_ble_eq_true rfl) ?_
  show Ev G 2 0 mJ0_length_8abf5 0 [some (.ref 2000)] [] w _
  refine ev_aload_n dJ0_length_8abf5_0 rfl ?_
  refine ev_sval (i := 0) (by decide) rfl dJ0_length_8abf5_1 ?_
  refine ev_stlen (i := 0) (by decide) dJ0_length_8abf5_4 ?_
  refine ev_aload_n dJ0_length_8abf5_5 rfl ?_
  refine ev_callVs (i := 0) kJ0_335 (by decide) rfl qJ0_coder_0 dJ0_length_8abf5_6 rfl (by decide) (by decide) rfl ?_
  refine ev_ishr (v := nI 4) dJ0_length_8abf5_9 (by decide) ?_
  exact ev_iret dJ0_length_8abf5_10 rfl rfl rfl rfl
set_option maxRecDepth 4000 in
theorem qJ1_indexOfChar_0 {G : GX} {w : WS} {n : Nat} (hn : n < 128) : Big G 1 0 mJ1_indexOfChar_4cfef [.ref 3000, .int (nI n), .int (nI 0), .int (nI 4)] w (.inl (some (.int (oI ((List.range 4).find? (fun k => (sB.getD 0 []).getD k 0 == nI n)))))) w := by
  refine big_of (by decide +kernel) (Nat.le_of_ble_eq_true rfl) ?_
  show Ev G 1 0 mJ1_indexOfChar_4cfef 0 [some (.ref 3000), some (.int (nI n)), some (.int (nI 0)), some (.int (nI 4)), none, none] [] w _
  refine ev_iload_n dJ1_indexOfChar_4cfef_0 rfl ?_
  refine ev_i2b (v := nI n) dJ1_indexOfChar_4cfef_1 (i2b_ ⟨n, hn⟩) ?_
  refine ev_ist4 dJ1_indexOfChar_4cfef_2 (by decide) rfl ?_
  refine ev_iload_n dJ1_indexOfChar_4cfef_4 rfl ?_
  refine ev_ist5 dJ1_indexOfChar_4cfef_5 (by decide) rfl ?_
  have lp : ∀ (n9 j : Nat) , j + n9 = 4 → (∀ k, k < j → ((sB.getD 0 []).getD k 0 == nI n) = false) → Ev G 1 0 mJ1_indexOfChar_4cfef 7 [some (.ref 3000), some (.int (nI n)), some (.int (nI 0)), some (.int (nI 4)), some (.int (nI n)), some (.int (nI j))] [] w (zu_ G (.inl (some (.int (oI ((List.range 4).find? (fun k => (sB.getD 0 []).getD k 0 == nI n)))))) w) := by
    intro n9
    induction n9 with
    | zero =>
      intro j  hi9 hb
      refine ev_iload dJ1_indexOfChar_4cfef_7 rfl ?_
      refine ev_iload_n dJ1_indexOfChar_4cfef_9 rfl ?_
      refine ev_icmp_ge_t (tgt := 31) dJ1_indexOfChar_4cfef_10 (by decide) (nI_le (by omega) (by omega)) ?_
      refine ev_iconst dJ1_indexOfChar_4cfef_31 icm1 ?_
      exact ev_iret dJ1_indexOfChar_4cfef_32 rfl rfl (by rw [show (List.range 4).find? (fun k => (sB.getD 0 []).getD k 0 == nI n) = none from find_none (fun k hk => hb k (by omega))]; rfl) rfl
    | succ n9 ih =>
      intro j  hi9 hb
      refine ev_iload dJ1_indexOfChar_4cfef_7 rfl ?_
      refine ev_iload_n dJ1_indexOfChar_4cfef_9 rfl ?_
      refine ev_icmp_ge_f (tgt := 31) dJ1_indexOfChar_4cfef_10 (by decide) (nI_ge (by omega) (by decide)) ?_
      refine ev_aload_n dJ1_indexOfChar_4cfef_13 rfl ?_
      refine ev_iload dJ1_indexOfChar_4cfef_14 rfl ?_
      refine ev_stb (i := 0) (j := j) (by decide) dJ1_indexOfChar_4cfef_16 rfl (show j < 4 by omega) (by omega) ?_
      refine ev_iload dJ1_indexOfChar_4cfef_17 rfl ?_
      refine ev_icmp_ne (tgt := 25) dJ1_indexOfChar_4cfef_19 (by decide) (fun hc19 => ?_) (fun hc19 => ?_)
      · refine ev_iinc5 dJ1_indexOfChar_4cfef_25 (nI_inc _) (by decide) rfl ?_
        refine ev_goto (tgt := 7) dJ1_indexOfChar_4cfef_28 (by decide) ?_
        exact ih (j + 1) (by omega) (fun k hk => (Nat.lt_or_ge k j).elim (fun h => hb k h) (fun h => by obtain rfl : k = j := (by omega); exact beq_eq_false_iff_ne.mpr hc19))
      · refine ev_iload dJ1_indexOfChar_4cfef_22 rfl ?_
        exact ev_iret dJ1_indexOfChar_4cfef_24 rfl rfl (by rw [show (List.range 4).find? (fun k => (sB.getD 0 []).getD k 0 == nI n) = some j from find_some (by omega) (beq_iff_eq.mpr hc19) hb]; rfl) rfl
  exact lp 4 0 rfl (fun k hk => absurd hk (Nat.not_lt_zero _))
set_option maxRecDepth 4000 in
theorem qJ1_canEncode {G : GX} {w : WS} {n : Nat} (hn : n < 256) : Big G 1 0 mJ1_canEncode_9a6ad [.int (nI n)] w (.inl (some (.int (nI 1)))) w := by
  refine big_of (by decide +kernel) (Nat.le_of_ble_eq_true rfl) ?_
  show Ev G 1 0 mJ1_canEncode_9a6ad 0 [some (.int (nI n))] [] w _
  refine ev_iload_n dJ1_canEncode_9a6ad_0 rfl ?_
  refine ev_if_lt_f (tgt := 15) dJ1_canEncode_9a6ad_1 (by decide) (nI_pos (by omega)) ?_
  refine ev_iload_n dJ1_canEncode_9a6ad_4 rfl ?_
  refine ev_sipush (v := nI 255) dJ1_canEncode_9a6ad_5 (by decide) ?_
  refine ev_icmp_gt_f (tgt := 15) dJ1_canEncode_9a6ad_8 (by decide) (nI_gtf (by omega) (by decide)) ?_
  refine ev_iconst dJ1_canEncode_9a6ad_11 ic1 ?_
  refine ev_goto (tgt := 16) dJ1_canEncode_9a6ad_12 (by decide) ?_
  exact ev_iret dJ1_canEncode_9a6ad_16 rfl rfl rfl rfl
set_option maxRecDepth 4000 in
theorem qJ1_indexOf_0 {G : GX} {w : WS} {n : Nat} (hn : n < 128) : Big G 2 0 mJ1_indexOf_4cfef [.ref 3000, .int (nI n), .int (nI 0), .int (nI 4)] w (.inl (some (.int (oI ((List.range 4).find? (fun k => (sB.getD 0 []).getD k 0 == nI n)))))) w := by
  refine big_of (by decide +kernel) (Nat.le_of_ble_eq_true rfl) ?_
  show Ev G 2 0 mJ1_indexOf_4cfef 0 [some (.ref 3000), some (.int (nI n)), some (.int (nI 0)), some (.int (nI 4))] [] w _
  refine ev_iload_n dJ1_indexOf_4cfef_0 rfl ?_
  refine ev_callS kJ1_88 (qJ1_canEncode (by omega)) dJ1_indexOf_4cfef_1 rfl (by decide) (by decide) rfl ?_
  refine ev_if_ne_t (tgt := 9) dJ1_indexOf_4cfef_4 (by decide) (by decide) ?_
  refine ev_iload_n dJ1_indexOf_4cfef_9 rfl ?_
  refine ev_iconst dJ1_indexOf_4cfef_10 ic0 ?_
  refine ev_max aJ1_92 dJ1_indexOf_4cfef_11 rfl ?_
  refine ev_top (y := nI 0) (by decide) ?_
  refine ev_ist2 dJ1_indexOf_4cfef_14 (by decide) rfl ?_
  refine ev_iload_n dJ1_indexOf_4cfef_15 rfl ?_
  refine ev_aload_n dJ1_indexOf_4cfef_16 rfl ?_
  refine ev_stlen (i := 0) (by decide) dJ1_indexOf_4cfef_17 ?_
  refine ev_min aJ1_38 dJ1_indexOf_4cfef_18 rfl ?_
  refine ev_top (y := nI 4) (by decide) ?_
  refine ev_ist3 dJ1_indexOf_4cfef_21 (by decide) rfl ?_
  refine ev_iload_n dJ1_indexOf_4cfef_22 rfl ?_
  refine ev_iload_n dJ1_indexOf_4cfef_23 rfl ?_
  refine ev_icmp_lt_t (tgt := 29) dJ1_indexOf_4cfef_24 (by decide) (by decide) ?_
  refine ev_aload_n dJ1_indexOf_4cfef_29 rfl ?_
  refine ev_iload_n dJ1_indexOf_4cfef_30 rfl ?_
  refine ev_iload_n dJ1_indexOf_4cfef_31 rfl ?_
  refine ev_iload_n dJ1_indexOf_4cfef_32 rfl ?_
  refine ev_callS kJ1_95 (qJ1_indexOfChar_0 hn) dJ1_indexOf_4cfef_33 rfl (by decide) (by decide) rfl ?_
  exact ev_iret dJ1_indexOf_4cfef_36 rfl rfl rfl rfl
set_option maxRecDepth 4000 in
theorem qJ0_indexOf2_0 {G : GX} {w : WS} {n : Nat} (hn : n < 128) : Big G 3 0 mJ0_indexOf_7cf53 [.ref 2000, .int (nI n), .int (nI 0)] w (.inl (some (.int (oI ((List.range 4).find? (fun k => (sB.getD 0 []).getD k 0 == nI n)))))) w := by
  refine big_of (by decide +kernel) (Nat.le_of_ble_eq_true rfl) ?_
  show Ev G 3 0 mJ0_indexOf_7cf53 0 [some (.ref 2000), some (.int (nI n)), some (.int (nI 0))] [] w _
  refine ev_aload_n dJ0_indexOf_7cf53_0 rfl ?_
  refine ev_callVs (i := 0) kJ0_492 (by decide) rfl qJ0_isLatin1_0 dJ0_indexOf_7cf53_1 rfl (by decide) (by decide) rfl ?_
  refine ev_if_eq_f (tgt := 23) dJ0_indexOf_7cf53_4 (by decide) (by decide) ?_
  refine ev_aload_n dJ0_indexOf_7cf53_7 rfl ?_
  refine ev_sval (i := 0) (by decide) rfl dJ0_indexOf_7cf53_8 ?_
  refine ev_iload_n dJ0_indexOf_7cf53_11 rfl ?_
  refine ev_iload_n dJ0_indexOf_7cf53_12 rfl ?_
  refine ev_aload_n dJ0_indexOf_7cf53_13 rfl ?_
  refine ev_callVs (i := 0) kJ0_505 (by decide) rfl qJ0_length_0 dJ0_indexOf_7cf53_14 rfl (by decide) (by decide) rfl ?_
  refine ev_callS kJ0_637 (qJ1_indexOf_0 hn) dJ0_indexOf_7cf53_17 rfl (by decide) (by decide) rfl ?_
  refine ev_goto (tgt := 36) dJ0_indexOf_7cf53_20 (by decide) ?_
  exact ev_iret dJ0_indexOf_7cf53_36 rfl rfl rfl rfl
set_option maxRecDepth 4000 in
theorem qJ0_indexOf_0 {G : GX} {w : WS} {n : Nat} (hn : n < 128) : Big G 4 0 mJ0_indexOf_0f7a4 [.ref 2000, .int (nI n)] w (.inl (some (.int (oI (dO_ n))))) w := by
  refine big_of (by decide +kernel) (Nat.le_of_ble_eq_true rfl) ?_
  show Ev G 4 0 mJ0_indexOf_0f7a4 0 [some (.ref 2000), some (.int (nI n))] [] w _
  refine ev_aload_n dJ0_indexOf_0f7a4_0 rfl ?_
  refine ev_iload_n dJ0_indexOf_0f7a4_1 rfl ?_
  refine ev_iconst dJ0_indexOf_0f7a4_2 ic0 ?_
  refine ev_callVs (i := 0) kJ0_633 (by decide) rfl (qJ0_indexOf2_0 hn) dJ0_indexOf_0f7a4_3 rfl (by decide) (by decide) rfl ?_
  exact ev_iret dJ0_indexOf_0f7a4_6 rfl rfl (by rw [nesw_ix ⟨n, hn⟩]) rfl
set_option maxRecDepth 4000 in
theorem qJ0_isLatin1_1 {G : GX} {w : WS} : Big G 1 0 mJ0_isLatin1_aae02 [.ref 2001] w (.inl (some (.int (nI 1)))) w := by
  refine big_of (by decide +kernel) (Nat.le_of_ble_eq_true rfl) ?_
  show Ev G 1 0 mJ0_isLatin1_aae02 0 [some (.ref 2001)] [] w _
  refine ev_gcomp rfl dJ0_isLatin1_aae02_0 ?_
  refine ev_if_eq_f (tgt := 17) dJ0_isLatin1_aae02_3 (by decide) (by decide) ?_
  refine ev_aload_n dJ0_isLatin1_aae02_6 rfl ?_
  refine ev_scod (i := 1) (by decide) rfl dJ0_isLatin1_aae02_7 ?_
  refine ev_if_ne_f (tgt := 17) dJ0_isLatin1_aae02_10 (by decide) rfl ?_
  refine ev_iconst dJ0_isLatin1_aae02_13 ic1 ?_
  refine ev_goto (tgt := 18) dJ0_isLatin1_aae02_14 (by decide) ?_
  exact ev_iret dJ0_isLatin1_aae02_18 rfl rfl rfl rfl
set_option maxRecDepth 4000 in
theorem qJ0_coder_1 {G : GX} {w : WS} : Big G 1 0 mJ0_coder_7d493 [.ref 2001] w (.inl (some (.int (0)))) w := by
  refine big_of (by decide +kernel) (Nat.le_of_ble_eq_true rfl) ?_
  show Ev G 1 0 mJ0_coder_7d493 0 [some (.ref 2001)] [] w _
  refine ev_gcomp rfl dJ0_coder_7d493_0 ?_
  refine ev_if_eq_f (tgt := 13) dJ0_coder_7d493_3 (by decide) (by decide) ?_
  refine ev_aload_n dJ0_coder_7d493_6 rfl ?_
  refine ev_scod (i := 1) (by decide) rfl dJ0_coder_7d493_7 ?_
  refine ev_goto (tgt := 14) dJ0_coder_7d493_10 (by decide) ?_
  exact ev_iret dJ0_coder_7d493_14 rfl (by decide) rfl rfl
set_option maxRecDepth 4000 in
theorem qJ0_length_1 {G : GX} {w : WS} : Big G 2 0 mJ0_length_8abf5 [.ref 2001] w (.inl (some (.int (nI 7)))) w := by
  refine big_of (by decide +kernel) (Nat.le_of_ble_eq_true rfl) ?_
  show Ev G 2 0 mJ0_length_8abf5 0 [some (.ref 2001)] [] w _
  refine ev_aload_n dJ0_length_8abf5_0 rfl ?_
  refine ev_sval (i := 1) (by decide) rfl dJ0_length_8abf5_1 ?_
  refine ev_stlen (i := 1) (by decide) dJ0_length_8abf5_4 ?_
  refine ev_aload_n dJ0_length_8abf5_5 rfl ?_
  refine ev_callVs (i := 1) kJ0_335 (by decide) rfl qJ0_coder_1 dJ0_length_8abf5_6 rfl (by decide) (by decide) rfl ?_
  refine ev_ishr (v := nI 7) dJ0_length_8abf5_9 (by decide) ?_
  exact ev_iret dJ0_length_8abf5_10 rfl rfl rfl rfl
set_option maxRecDepth 4000 in
theorem qJ1_indexOfChar_1 {G : GX} {w : WS} {n : Nat} (hn : n < 128) : Big G 1 0 mJ1_indexOfChar_4cfef [.ref 3001, .int (nI n), .int (nI 0), .int (nI 7)] w (.inl (some (.int (oI ((List.range 7).find? (fun k => (sB.getD 1 []).getD k 0 == nI n)))))) w := by
  refine big_of (by decide +kernel) (Nat.le_of_ble_eq_true rfl) ?_
  show Ev G 1 0 mJ1_indexOfChar_4cfef 0 [some (.ref 3001), some (.int (nI n)), some (.int (nI 0)), some (.int (nI 7)), none, none] [] w _
  refine ev_iload_n dJ1_indexOfChar_4cfef_0 rfl ?_
  refine ev_i2b (v := nI n) dJ1_indexOfChar_4cfef_1 (i2b_ ⟨n, hn⟩) ?_
  refine ev_ist4 dJ1_indexOfChar_4cfef_2 (by decide) rfl ?_
  refine ev_iload_n dJ1_indexOfChar_4cfef_4 rfl ?_
  refine ev_ist5 dJ1_indexOfChar_4cfef_5 (by decide) rfl ?_
  have lp : ∀ (n9 j : Nat) , j + n9 = 7 → (∀ k, k < j → ((sB.getD 1 []).getD k 0 == nI n) = false) → Ev G 1 0 mJ1_indexOfChar_4cfef 7 [some (.ref 3001), some (.int (nI n)), some (.int (nI 0)), some (.int (nI 7)), some (.int (nI n)), some (.int (nI j))] [] w (zu_ G (.inl (some (.int (oI ((List.range 7).find? (fun k => (sB.getD 1 []).getD k 0 == nI n)))))) w) := by
    intro n9
    induction n9 with
    | zero =>
      intro j  hi9 hb
      refine ev_iload dJ1_indexOfChar_4cfef_7 rfl ?_
      refine ev_iload_n dJ1_indexOfChar_4cfef_9 rfl ?_
      refine ev_icmp_ge_t (tgt := 31) dJ1_indexOfChar_4cfef_10 (by decide) (nI_le (by omega) (by omega)) ?_
      refine ev_iconst dJ1_indexOfChar_4cfef_31 icm1 ?_
      exact ev_iret dJ1_indexOfChar_4cfef_32 rfl rfl (by rw [show (List.range 7).find? (fun k => (sB.getD 1 []).getD k 0 == nI n) = none from find_none (fun k hk => hb k (by omega))]; rfl) rfl
    | succ n9 ih =>
      intro j  hi9 hb
      refine ev_iload dJ1_indexOfChar_4cfef_7 rfl ?_
      refine ev_iload_n dJ1_indexOfChar_4cfef_9 rfl ?_
      refine ev_icmp_ge_f (tgt := 31) dJ1_indexOfChar_4cfef_10 (by decide) (nI_ge (by omega) (by decide)) ?_
      refine ev_aload_n dJ1_indexOfChar_4cfef_13 rfl ?_
      refine ev_iload dJ1_indexOfChar_4cfef_14 rfl ?_
      refine ev_stb (i := 1) (j := j) (by decide) dJ1_indexOfChar_4cfef_16 rfl (show j < 7 by omega) (by omega) ?_
      refine ev_iload dJ1_indexOfChar_4cfef_17 rfl ?_
      refine ev_icmp_ne (tgt := 25) dJ1_indexOfChar_4cfef_19 (by decide) (fun hc19 => ?_) (fun hc19 => ?_)
      · refine ev_iinc5 dJ1_indexOfChar_4cfef_25 (nI_inc _) (by decide) rfl ?_
        refine ev_goto (tgt := 7) dJ1_indexOfChar_4cfef_28 (by decide) ?_
        exact ih (j + 1) (by omega) (fun k hk => (Nat.lt_or_ge k j).elim (fun h => hb k h) (fun h => by obtain rfl : k = j := (by omega); exact beq_eq_false_iff_ne.mpr hc19))
      · refine ev_iload dJ1_indexOfChar_4cfef_22 rfl ?_
        exact ev_iret dJ1_indexOfChar_4cfef_24 rfl rfl (by rw [show (List.range 7).find? (fun k => (sB.getD 1 []).getD k 0 == nI n) = some j from find_some (by omega) (beq_iff_eq.mpr hc19) hb]; rfl) rfl
  exact lp 7 0 rfl (fun k hk => absurd hk (Nat.not_lt_zero _))
set_option maxRecDepth 4000 in
theorem qJ1_indexOf_1 {G : GX} {w : WS} {n : Nat} (hn : n < 128) : Big G 2 0 mJ1_indexOf_4cfef [.ref 3001, .int (nI n), .int (nI 0), .int (nI 7)] w (.inl (some (.int (oI ((List.range 7).find? (fun k => (sB.getD 1 []).getD k 0 == nI n)))))) w := by
  refine big_of (by decide +kernel) (Nat.le_of_ble_eq_true rfl) ?_
  show Ev G 2 0 mJ1_indexOf_4cfef 0 [some (.ref 3001), some (.int (nI n)), some (.int (nI 0)), some (.int (nI 7))] [] w _
  refine ev_iload_n dJ1_indexOf_4cfef_0 rfl ?_
  refine ev_callS kJ1_88 (qJ1_canEncode (by omega)) dJ1_indexOf_4cfef_1 rfl (by decide) (by decide) rfl ?_
  refine ev_if_ne_t (tgt := 9) dJ1_indexOf_4cfef_4 (by decide) (by decide) ?_
  refine ev_iload_n dJ1_indexOf_4cfef_9 rfl ?_
  refine ev_iconst dJ1_indexOf_4cfef_10 ic0 ?_
  refine ev_max aJ1_92 dJ1_indexOf_4cfef_11 rfl ?_
  refine ev_top (y := nI 0) (by decide) ?_
  refine ev_ist2 dJ1_indexOf_4cfef_14 (by decide) rfl ?_
  refine ev_iload_n dJ1_indexOf_4cfef_15 rfl ?_
  refine ev_aload_n dJ1_indexOf_4cfef_16 rfl ?_
  refine ev_stlen (i := 1) (by decide) dJ1_indexOf_4cfef_17 ?_
  refine ev_min aJ1_38 dJ1_indexOf_4cfef_18 rfl ?_
  refine ev_top (y := nI 7) (by decide) ?_
  refine ev_ist3 dJ1_indexOf_4cfef_21 (by decide) rfl ?_
  refine ev_iload_n dJ1_indexOf_4cfef_22 rfl ?_
  refine ev_iload_n dJ1_indexOf_4cfef_23 rfl ?_
  refine ev_icmp_lt_t (tgt := 29) dJ1_indexOf_4cfef_24 (by decide) (by decide) ?_
  refine ev_aload_n dJ1_indexOf_4cfef_29 rfl ?_
  refine ev_iload_n dJ1_indexOf_4cfef_30 rfl ?_
  refine ev_iload_n dJ1_indexOf_4cfef_31 rfl ?_
  refine ev_iload_n dJ1_indexOf_4cfef_32 rfl ?_
  refine ev_callS kJ1_95 (qJ1_indexOfChar_1 hn) dJ1_indexOf_4cfef_33 rfl (by decide) (by decide) rfl ?_
  exact ev_iret dJ1_indexOf_4cfef_36 rfl rfl rfl rfl
set_option maxRecDepth 4000 in
theorem qJ0_indexOf2_1 {G : GX} {w : WS} {n : Nat} (hn : n < 128) : Big G 3 0 mJ0_indexOf_7cf53 [.ref 2001, .int (nI n), .int (nI 0)] w (.inl (some (.int (oI ((List.range 7).find? (fun k => (sB.getD 1 []).getD k 0 == nI n)))))) w := by
  refine big_of (by decide +kernel) (Nat.le_of_ble_eq_true rfl) ?_
  show Ev G 3 0 mJ0_indexOf_7cf53 0 [some (.ref 2001), some (.int (nI n)), some (.int (nI 0))] [] w _
  refine ev_aload_n dJ0_indexOf_7cf53_0 rfl ?_
  refine ev_callVs (i := 1) kJ0_492 (by decide) rfl qJ0_isLatin1_1 dJ0_indexOf_7cf53_1 rfl (by decide) (by decide) rfl ?_
  refine ev_if_eq_f (tgt := 23) dJ0_indexOf_7cf53_4 (by decide) (by decide) ?_
  refine ev_aload_n dJ0_indexOf_7cf53_7 rfl ?_
  refine ev_sval (i := 1) (by decide) rfl dJ0_indexOf_7cf53_8 ?_
  refine ev_iload_n dJ0_indexOf_7cf53_11 rfl ?_
  refine ev_iload_n dJ0_indexOf_7cf53_12 rfl ?_
  refine ev_aload_n dJ0_indexOf_7cf53_13 rfl ?_
  refine ev_callVs (i := 1) kJ0_505 (by decide) rfl qJ0_length_1 dJ0_indexOf_7cf53_14 rfl (by decide) (by decide) rfl ?_
  refine ev_callS kJ0_637 (qJ1_indexOf_1 hn) dJ0_indexOf_7cf53_17 rfl (by decide) (by decide) rfl ?_
  refine ev_goto (tgt := 36) dJ0_indexOf_7cf53_20 (by decide) ?_
  exact ev_iret dJ0_indexOf_7cf53_36 rfl rfl rfl rfl
set_option maxRecDepth 4000 in
theorem qJ0_indexOf_1 {G : GX} {w : WS} {n : Nat} (hn : n < 128) : Big G 4 0 mJ0_indexOf_0f7a4 [.ref 2001, .int (nI n)] w (.inl (some (.int (oI (cI_ n))))) w := by
  refine big_of (by decide +kernel) (Nat.le_of_ble_eq_true rfl) ?_
  show Ev G 4 0 mJ0_indexOf_0f7a4 0 [some (.ref 2001), some (.int (nI n))] [] w _
  refine ev_aload_n dJ0_indexOf_0f7a4_0 rfl ?_
  refine ev_iload_n dJ0_indexOf_0f7a4_1 rfl ?_
  refine ev_iconst dJ0_indexOf_0f7a4_2 ic0 ?_
  refine ev_callVs (i := 1) kJ0_633 (by decide) rfl (qJ0_indexOf2_1 hn) dJ0_indexOf_0f7a4_3 rfl (by decide) (by decide) rfl ?_
  exact ev_iret dJ0_indexOf_0f7a4_6 rfl rfl rfl rfl
set_option maxRecDepth 4000 in
theorem qJ3_checkIndex_0 {G : GX} {w : WS} {k n : Nat} (hk : k < n) (hn : n < 1000) : Big G 1 0 mJ3_checkIndex_8e157 [.int (nI k), .int (nI n), .null] w (.inl (some (.int (nI k)))) w := by
  refine big_of (by decide +kernel) (Nat.le_of_ble_eq_true rfl) ?_
  show Ev G 1 0 mJ3_checkIndex_8e157 0 [some (.int (nI k)), some (.int (nI n)), some (.null)] [] w _
  refine ev_iload_n dJ3_checkIndex_8e157_0 rfl ?_
  refine ev_if_lt_f (tgt := 9) dJ3_checkIndex_8e157_1 (by decide) (nI_pos (by omega)) ?_
  refine ev_iload_n dJ3_checkIndex_8e157_4 rfl ?_
  refine ev_iload_n dJ3_checkIndex_8e157_5 rfl ?_
  refine ev_icmp_lt_t (tgt := 16) dJ3_checkIndex_8e157_6 (by decide) ((pk_lt' (by omega) (by omega)).mpr hk) ?_
  refine ev_iload_n dJ3_checkIndex_8e157_16 rfl ?_
  exact ev_iret dJ3_checkIndex_8e157_17 rfl rfl rfl rfl
set_option maxRecDepth 4000 in
theorem qJ3_checkIndex_1 {G : GX} {w : WS} {k n : Nat} (hk : k < n) (hn : n < 1000) : Big G 1 0 mJ3_checkIndex_8e157 [.int (nI k), .int (nI n), .ref 4000] w (.inl (some (.int (nI k)))) w := by
  refine big_of (by decide +kernel) (Nat.le_of_ble_eq_true rfl) ?_
  show Ev G 1 0 mJ3_checkIndex_8e157 0 [some (.int (nI k)), some (.int (nI n)), some (.ref 4000)] [] w _
  refine ev_iload_n dJ3_checkIndex_8e157_0 rfl ?_
  refine ev_if_lt_f (tgt := 9) dJ3_checkIndex_8e157_1 (by decide) (nI_pos (by omega)) ?_
  refine ev_iload_n dJ3_checkIndex_8e157_4 rfl ?_
  refine ev_iload_n dJ3_checkIndex_8e157_5 rfl ?_
  refine ev_icmp_lt_t (tgt := 16) dJ3_checkIndex_8e157_6 (by decide) ((pk_lt' (by omega) (by omega)).mpr hk) ?_
  refine ev_iload_n dJ3_checkIndex_8e157_16 rfl ?_
  exact ev_iret dJ3_checkIndex_8e157_17 rfl rfl rfl rfl
set_option maxRecDepth 4000 in
theorem qJ0_checkIndex {G : GX} {w : WS} {k n : Nat} (hk : k < n) (hn : n < 1000) : Big G 2 0 mJ0_checkIndex_df160 [.int (nI k), .int (nI n)] w (.inl none) w := by
  refine big_of (by decide +kernel) (Nat.le_of_ble_eq_true rfl) ?_
  show Ev G 2 0 mJ0_checkIndex_df160 0 [some (.int (nI k)), some (.int (nI n))] [] w _
  refine ev_iload_n dJ0_checkIndex_df160_0 rfl ?_
  refine ev_iload_n dJ0_checkIndex_df160_1 rfl ?_
  refine ev_gfmt rfl dJ0_checkIndex_df160_2 (fun x hx => ?_)
  rcases hx with rfl | rfl
  · refine ev_callS kJ0_1059 (qJ3_checkIndex_0 hk hn) dJ0_checkIndex_df160_5 rfl (by decide) (by decide) rfl ?_
    refine ev_pop dJ0_checkIndex_df160_8 rfl ?_
    exact ev_vret dJ0_checkIndex_df160_9 rfl rfl rfl
  · refine ev_callS kJ0_1059 (qJ3_checkIndex_1 hk hn) dJ0_checkIndex_df160_5 rfl (by decide) (by decide) rfl ?_
    refine ev_pop dJ0_checkIndex_df160_8 rfl ?_
    exact ev_vret dJ0_checkIndex_df160_9 rfl rfl rfl
set_option maxRecDepth 4000 in
theorem qJ1_charAt {G : GX} {w : WS} {k : Nat} (hk : k < 4) : Big G 3 0 mJ1_charAt_3b067 [.ref 3000, .int (nI k)] w (.inl (some (.int (nI (sgS k))))) w := by
  refine big_of (by decide +kernel) (Nat.le_of_ble_eq_true rfl) ?_
  have hs : sgS k < 128 := by unfold sgS; (repeat' split) <;> decide
  show Ev G 3 0 mJ1_charAt_3b067 0 [some (.ref 3000), some (.int (nI k))] [] w _
  refine ev_iload_n dJ1_charAt_3b067_0 rfl ?_
  refine ev_aload_n dJ1_charAt_3b067_1 rfl ?_
  refine ev_stlen (i := 0) (by decide) dJ1_charAt_3b067_2 ?_
  refine ev_callS kJ1_9 (qJ0_checkIndex (n := 4) hk (by decide)) dJ1_charAt_3b067_3 rfl (by decide) (by decide) rfl ?_
  refine ev_aload_n dJ1_charAt_3b067_6 rfl ?_
  refine ev_iload_n dJ1_charAt_3b067_7 rfl ?_
  refine ev_stb (i := 0) (j := k) (by decide) dJ1_charAt_3b067_8 rfl (show k < 4 from hk) (by omega) ?_
  refine ev_sipush (v := nI 255) dJ1_charAt_3b067_9 (by decide) ?_
  refine ev_iand dJ1_charAt_3b067_12 ?_
  refine ev_top (y := nI (sgS k)) (lat_and ⟨k, hk⟩) ?_
  refine ev_i2c dJ1_charAt_3b067_13 (pC_i2c (by omega)) ?_
  exact ev_iret dJ1_charAt_3b067_14 rfl (pk_charN (by omega)).1 rfl rfl
set_option maxRecDepth 4000 in
theorem qJ0_charAt {G : GX} {w : WS} {k : Nat} (hk : k < 4) : Big G 4 0 mJ0_charAt_5068e [.ref 2000, .int (nI k)] w (.inl (some (.int (nI (sgS k))))) w := by
  refine big_of (by decide +kernel) (Nat.le_of_ble_eq_true rfl) ?_
  have hs : sgS k < 128 := by unfold sgS; (repeat' split) <;> decide
  show Ev G 4 0 mJ0_charAt_5068e 0 [some (.ref 2000), some (.int (nI k))] [] w _
  refine ev_aload_n dJ0_charAt_5068e_0 rfl ?_
  refine ev_callVs (i := 0) kJ0_492 (by decide) rfl qJ0_isLatin1_0 dJ0_charAt_5068e_1 rfl (by decide) (by decide) rfl ?_
  refine ev_if_eq_f (tgt := 16) dJ0_charAt_5068e_4 (by decide) (by decide) ?_
  refine ev_aload_n dJ0_charAt_5068e_7 rfl ?_
  refine ev_sval (i := 0) (by decide) rfl dJ0_charAt_5068e_8 ?_
  refine ev_iload_n dJ0_charAt_5068e_11 rfl ?_
  refine ev_callS kJ0_495 (qJ1_charAt hk) dJ0_charAt_5068e_12 rfl (by decide) (by decide) rfl ?_
  exact ev_iret dJ0_charAt_5068e_15 rfl (pk_charN (by omega)).1 rfl rfl
