/-! the law's loop -/
theorem li_le {n i : Nat} (hn : n ≤ 1536) (h : i + 3 ≤ n) : ¬ nI n - nI 3 < nI i := by
  rw [pk_sub (by omega)]
  exact Int32.not_lt.mpr (nI_le (by omega) (by omega))
theorem li_gt {n i : Nat} (hn : n ≤ 1536) (hi : i ≤ 2000) (h : ¬ i + 3 ≤ n) : nI n - nI 3 < nI i := by
  rcases Nat.lt_or_ge n 3 with q | q
  · have h0 : nI n - nI 3 < 0 := by
      rcases (by omega : n = 0 ∨ n = 1 ∨ n = 2) with rfl | rfl | rfl <;> decide
    exact Int32.lt_of_lt_of_le h0 (Int32.not_lt.mp (nI_pos (by omega)))
  · rw [pk_sub q]
    exact Int32.not_le.mp (nI_ge (by omega) (by omega))
theorem law_sw {G : GX} {w : WS} {A : AS} {b i k : Nat} (h : LI A w) (hi : i + 2 < gN G) (hN : gN G ≤ 1536) (hk : k < 64) {Z : ZT} (K : ∀ b2 A2 w2, b ≤ b2 → LI A2 w2 → Ev G 70 b2 mL_law 2585 (lq_ i) [] w2 Z) : Ev G 70 (b + 1) mL_law 44 (lq_ i) [.int (nI k)] w Z := by
  rcases (by omega : k = 0 ∨ k = 1 ∨ k = 2 ∨ k = 3 ∨ k = 4 ∨ k = 5 ∨ k = 6 ∨ k = 7 ∨ k = 8 ∨ k = 9 ∨ k = 10 ∨ k = 11 ∨ k = 12 ∨ k = 13 ∨ k = 14 ∨ k = 15 ∨ k = 16 ∨ k = 17 ∨ k = 18 ∨ k = 19 ∨ k = 20 ∨ k = 21 ∨ k = 22 ∨ k = 23 ∨ k = 24 ∨ k = 25 ∨ k = 26 ∨ k = 27 ∨ k = 28 ∨ k = 29 ∨ k = 30 ∨ k = 31 ∨ k = 32 ∨ k = 33 ∨ k = 34 ∨ k = 35 ∨ k = 36 ∨ k = 37 ∨ k = 38 ∨ k = 39 ∨ k = 40 ∨ k = 41 ∨ 42 ≤ k) with rfl | rfl | rfl | rfl | rfl | rfl | rfl | rfl | rfl | rfl | rfl | rfl | rfl | rfl | rfl | rfl | rfl | rfl | rfl | rfl | rfl | rfl | rfl | rfl | rfl | rfl | rfl | rfl | rfl | rfl | rfl | rfl | rfl | rfl | rfl | rfl | rfl | rfl | rfl | rfl | rfl | rfl | h42
  · exact ev_tableIn (tgt := 228) (off := 184) dL_law_44 (by decide) (by decide) (by decide +kernel) (by decide) (lc_0 h hi hN (fun A2 w2 q => K b A2 w2 (Nat.le_refl _) q))
  · exact ev_tableIn (tgt := 296) (off := 252) dL_law_44 (by decide) (by decide) (by decide +kernel) (by decide) (lc_1 h hi hN (fun A2 w2 q => K b A2 w2 (Nat.le_refl _) q))
  · exact ev_tableIn (tgt := 364) (off := 320) dL_law_44 (by decide) (by decide) (by decide +kernel) (by decide) (lc_2 h hi hN (fun A2 w2 q => K b A2 w2 (Nat.le_refl _) q))
  · exact ev_tableIn (tgt := 420) (off := 376) dL_law_44 (by decide) (by decide) (by decide +kernel) (by decide) (lc_3 h hi hN (fun A2 w2 q => K b A2 w2 (Nat.le_refl _) q))
  · exact ev_tableIn (tgt := 488) (off := 444) dL_law_44 (by decide) (by decide) (by decide +kernel) (by decide) (lc_4 h hi hN (fun A2 w2 q => K b A2 w2 (Nat.le_refl _) q))
  · exact ev_tableIn (tgt := 544) (off := 500) dL_law_44 (by decide) (by decide) (by decide +kernel) (by decide) (lc_5 h hi hN (fun A2 w2 q => K b A2 w2 (Nat.le_refl _) q))
  · exact ev_tableIn (tgt := 612) (off := 568) dL_law_44 (by decide) (by decide) (by decide +kernel) (by decide) (lc_6 h hi hN (fun A2 w2 q => K b A2 w2 (Nat.le_refl _) q))
  · exact ev_tableIn (tgt := 668) (off := 624) dL_law_44 (by decide) (by decide) (by decide +kernel) (by decide) (lc_7 h hi hN (fun A2 w2 q => K b A2 w2 (Nat.le_refl _) q))
  · exact ev_tableIn (tgt := 724) (off := 680) dL_law_44 (by decide) (by decide) (by decide +kernel) (by decide) (lc_8 h hi hN (fun A2 w2 q => K b A2 w2 (Nat.le_refl _) q))
  · exact ev_tableIn (tgt := 792) (off := 748) dL_law_44 (by decide) (by decide) (by decide +kernel) (by decide) (lc_9 h hi hN (fun A2 w2 q => K b A2 w2 (Nat.le_refl _) q))
  · exact ev_tableIn (tgt := 860) (off := 816) dL_law_44 (by decide) (by decide) (by decide +kernel) (by decide) (lc_10 h hi hN (fun A2 w2 q => K b A2 w2 (Nat.le_refl _) q))
  · exact ev_tableIn (tgt := 928) (off := 884) dL_law_44 (by decide) (by decide) (by decide +kernel) (by decide) (lc_11 h hi hN (fun A2 w2 q => K b A2 w2 (Nat.le_refl _) q))
  · exact ev_tableIn (tgt := 996) (off := 952) dL_law_44 (by decide) (by decide) (by decide +kernel) (by decide) (lc_12 h hi hN (fun A2 w2 q => K b A2 w2 (Nat.le_refl _) q))
  · exact ev_tableIn (tgt := 1052) (off := 1008) dL_law_44 (by decide) (by decide) (by decide +kernel) (by decide) (lc_13 h hi hN (fun A2 w2 q => K b A2 w2 (Nat.le_refl _) q))
  · exact ev_tableIn (tgt := 1108) (off := 1064) dL_law_44 (by decide) (by decide) (by decide +kernel) (by decide) (lc_14 h hi hN (fun A2 w2 q => K b A2 w2 (Nat.le_refl _) q))
  · exact ev_tableIn (tgt := 1176) (off := 1132) dL_law_44 (by decide) (by decide) (by decide +kernel) (by decide) (lc_15 h hi hN (fun A2 w2 q => K b A2 w2 (Nat.le_refl _) q))
  · exact ev_tableIn (tgt := 1232) (off := 1188) dL_law_44 (by decide) (by decide) (by decide +kernel) (by decide) (lc_16 h hi hN (fun A2 w2 q => K b A2 w2 (Nat.le_refl _) q))
  · exact ev_tableIn (tgt := 1288) (off := 1244) dL_law_44 (by decide) (by decide) (by decide +kernel) (by decide) (lc_17 h hi hN (fun A2 w2 q => K b A2 w2 (Nat.le_refl _) q))
  · exact ev_tableIn (tgt := 1344) (off := 1300) dL_law_44 (by decide) (by decide) (by decide +kernel) (by decide) (lc_18 h hi hN (fun A2 w2 q => K b A2 w2 (Nat.le_refl _) q))
  · exact ev_tableIn (tgt := 1400) (off := 1356) dL_law_44 (by decide) (by decide) (by decide +kernel) (by decide) (lc_19 h hi hN (fun A2 w2 q => K b A2 w2 (Nat.le_refl _) q))
  · exact ev_tableIn (tgt := 1475) (off := 1431) dL_law_44 (by decide) (by decide) (by decide +kernel) (by decide) (lc_20 h hi hN (fun A2 w2 q => K b A2 w2 (Nat.le_refl _) q))
  · exact ev_tableIn (tgt := 1531) (off := 1487) dL_law_44 (by decide) (by decide) (by decide +kernel) (by decide) (lc_21 h hi hN (fun A2 w2 q => K b A2 w2 (Nat.le_refl _) q))
  · exact ev_tableIn (tgt := 1615) (off := 1571) dL_law_44 (by decide) (by decide) (by decide +kernel) (by decide) (lc_22 h hi hN (fun A2 w2 q => K b A2 w2 (Nat.le_refl _) q))
  · exact ev_tableIn (tgt := 1699) (off := 1655) dL_law_44 (by decide) (by decide) (by decide +kernel) (by decide) (lc_23 h hi hN (fun A2 w2 q => K b A2 w2 (Nat.le_refl _) q))
  · exact ev_tableIn (tgt := 1740) (off := 1696) dL_law_44 (by decide) (by decide) (by decide +kernel) (by decide) (lc_24 h hi hN (fun A2 w2 q => K b A2 w2 (Nat.le_refl _) q))
  · exact ev_tableIn (tgt := 1753) (off := 1709) dL_law_44 (by decide) (by decide) (by decide +kernel) (by decide) (lc_25 h hi hN (fun A2 w2 q => K b A2 w2 (Nat.le_refl _) q))
  · exact ev_tableIn (tgt := 1797) (off := 1753) dL_law_44 (by decide) (by decide) (by decide +kernel) (by decide) (lc_26 h hi hN (fun A2 w2 q => K b A2 w2 (Nat.le_refl _) q))
  · exact ev_tableIn (tgt := 1853) (off := 1809) dL_law_44 (by decide) (by decide) (by decide +kernel) (by decide) (lc_27 h hi hN (fun A2 w2 q => K b A2 w2 (Nat.le_refl _) q))
  · exact ev_tableIn (tgt := 1909) (off := 1865) dL_law_44 (by decide) (by decide) (by decide +kernel) (by decide) (lc_28 h hi hN (fun A2 w2 q => K b A2 w2 (Nat.le_refl _) q))
  · exact ev_tableIn (tgt := 1922) (off := 1878) dL_law_44 (by decide) (by decide) (by decide +kernel) (by decide) (lc_29 h hi hN (fun A2 w2 q => K b A2 w2 (Nat.le_refl _) q))
  · exact ev_tableIn (tgt := 1978) (off := 1934) dL_law_44 (by decide) (by decide) (by decide +kernel) (by decide) (lc_30 h hi hN (fun A2 w2 q => K b A2 w2 (Nat.le_refl _) q))
  · exact ev_tableIn (tgt := 2034) (off := 1990) dL_law_44 (by decide) (by decide) (by decide +kernel) (by decide) (lc_31 h hi hN (fun A2 w2 q => K b A2 w2 (Nat.le_refl _) q))
  · exact ev_tableIn (tgt := 2090) (off := 2046) dL_law_44 (by decide) (by decide) (by decide +kernel) (by decide) (lc_32 h hi hN (fun A2 w2 q => K b A2 w2 (Nat.le_refl _) q))
  · exact ev_tableIn (tgt := 2155) (off := 2111) dL_law_44 (by decide) (by decide) (by decide +kernel) (by decide) (lc_33 h hi hN (fun A2 w2 q => K b A2 w2 (Nat.le_refl _) q))
  · exact ev_tableIn (tgt := 2198) (off := 2154) dL_law_44 (by decide) (by decide) (by decide +kernel) (by decide) (lc_34 h hi hN (fun A2 w2 q => K b A2 w2 (Nat.le_refl _) q))
  · exact ev_tableIn (tgt := 2254) (off := 2210) dL_law_44 (by decide) (by decide) (by decide +kernel) (by decide) (lc_35 h hi hN (fun A2 w2 q => K b A2 w2 (Nat.le_refl _) q))
  · exact ev_tableIn (tgt := 2312) (off := 2268) dL_law_44 (by decide) (by decide) (by decide +kernel) (by decide) (lc_36 h hi hN (fun A2 w2 q => K b A2 w2 (Nat.le_refl _) q))
  · exact ev_tableIn (tgt := 2356) (off := 2312) dL_law_44 (by decide) (by decide) (by decide +kernel) (by decide) (lc_37 h hi hN (fun A2 w2 q => K b A2 w2 (Nat.le_refl _) q))
  · exact ev_tableIn (tgt := 2400) (off := 2356) dL_law_44 (by decide) (by decide) (by decide +kernel) (by decide) (lc_38 h hi hN (fun A2 w2 q => K b A2 w2 (Nat.le_refl _) q))
  · exact ev_tableIn (tgt := 2484) (off := 2440) dL_law_44 (by decide) (by decide) (by decide +kernel) (by decide) (lc_39 h hi hN (fun A2 w2 q => K b A2 w2 (Nat.le_refl _) q))
  · exact ev_tableIn (tgt := 2528) (off := 2484) dL_law_44 (by decide) (by decide) (by decide +kernel) (by decide) (lc_40 h hi hN (fun A2 w2 q => K b A2 w2 (Nat.le_refl _) q))
  · exact ev_tableIn (tgt := 2541) (off := 2497) dL_law_44 (by decide) (by decide) (by decide +kernel) (by decide) (lc_41 h hi hN (fun A2 w2 q => K b A2 w2 (Nat.le_refl _) q))
  · exact ev_tableOut (tgt := 2585) dL_law_44 (Or.inr (by rw [nI_toInt (by omega)]; omega)) (by decide) (K _ A w (Nat.le_succ b) h)
theorem law_loop {G : GX} (hN : gN G ≤ 1536) {Z : ZT} (E : ∀ b i A w, LI A w → Ev G 70 b mL_law 2591 (lq_ i) [] w Z) : ∀ (n i : Nat) (A : AS) (w : WS), LI A w → gN G ≤ i + 3 * n → i ≤ 2000 → Ev G 70 n mL_law 28 (lq_ i) [] w Z := by
  intro n
  induction n with
  | zero =>
    intro i A w h hn hi
    refine ev_iload dL_law_28 rfl ?_
    refine ev_aload_n dL_law_30 rfl ?_
    refine ev_slen dL_law_31 ?_
    refine ev_iconst dL_law_32 ic3 ?_
    refine ev_isub dL_law_33 ?_
    skip
    refine ev_icmp_gt_t (tgt := 2591) dL_law_34 (by decide) (li_gt hN hi (by omega)) ?_
    exact E _ i A w h
  | succ n ih =>
    intro i A w h hn hi
    by_cases hc : i + 3 ≤ gN G
    · skip
      refine ev_iload dL_law_28 rfl ?_
      refine ev_aload_n dL_law_30 rfl ?_
      refine ev_slen dL_law_31 ?_
      refine ev_iconst dL_law_32 ic3 ?_
      refine ev_isub dL_law_33 ?_
      skip
      refine ev_icmp_gt_f (tgt := 2591) dL_law_34 (by decide) (li_le hN hc) ?_
      refine ev_aload_n dL_law_37 rfl ?_
      refine ev_iload dL_law_38 rfl ?_
      refine ev_sload dL_law_40 rfl (by omega) hN ?_
      refine ev_bipush (v := nI 63) dL_law_41 (by decide) ?_
      refine ev_iand dL_law_43 ?_
      rw [pk_and _ 6 (by decide)]
      refine law_sw h (by omega) hN (Nat.mod_lt _ (by decide)) (fun b2 A2 w2 hb2 h2 => ?_)
      refine ev_iinc5 dL_law_2585 (nI_add i 3) (by decide) rfl ?_
      refine ev_goto (tgt := 28) dL_law_2588 (by decide) ?_
      exact ev_le hb2 (ih (i + 3) A2 w2 h2 (by omega) (by omega))
    · skip
      refine ev_iload dL_law_28 rfl ?_
      refine ev_aload_n dL_law_30 rfl ?_
      refine ev_slen dL_law_31 ?_
      refine ev_iconst dL_law_32 ic3 ?_
      refine ev_isub dL_law_33 ?_
      skip
      refine ev_icmp_gt_t (tgt := 2591) dL_law_34 (by decide) (li_gt hN hi hc) ?_
      exact E _ i A w h
