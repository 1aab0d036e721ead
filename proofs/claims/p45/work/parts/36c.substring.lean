/-! a piece of a text -/
section
variable {G : GX}
theorem cJ1_ns1 {x : Nat → Nat → Int32} {T : va_W} {y m i k : Nat} {f : Nat → Int32} (hy : bv_ G T y m f) (hi : 0 < i) (hm : i + k ≤ m) (hm2 : m ≤ 200) (hf : fb_ f m) {e : Nat × va_E} : BigP G 3 210 mJ7_copyOfRange_39247 [.ref y, .int (nI i), .int (nI (i + k))] (x, T ++ [e]) (fun r0 w2 => ∃ z g, r0 = some (dy z) ∧ w2 = (x, (T ++ [e]) ++ [byA G z (i + k - i) g]) ∧ (∀ t, t < i + k - i → g t = f (i + t)) ∧ fb_ g (i + k - i)) :=
  cJ7_copyRange (bv_mo hy (fun q hq => List.mem_append_left _ hq)) (Nat.le_add_right i k) hm hm2 hf (Or.inr hi)
set_option maxRecDepth 8000 in
theorem cJ1_ns2 {w : WS} {y i k s : Nat} {P : Option Value → WS → Prop} {Z : ZT} (hc : BigP G 3 210 mJ7_copyOfRange_39247 [.ref y, .int (nI i), .int (nI (i + k))] w P) (K : ∀ r0 w2, P r0 w2 → Ev G 4 6 mJ1_newString_b4f7a 19 [some (.ref y), some (.int (nI i)), some (.int (nI k))] (ps_ r0 [dy s, dy s]) w2 Z) : Ev G 4 216 mJ1_newString_b4f7a 16 [some (.ref y), some (.int (nI i)), some (.int (nI k))] [.int (nI (i + k)), .int (nI i), .ref y, dy s, dy s] w Z := by
  refine ev_callSP (w := w) kJ1_232 (as := [.ref y, .int (nI i), .int (nI (i + k))]) (rest := [dy s, dy s]) hc dJ1_newString_b4f7a_16 rfl (by decide) (by decide) rfl (fun r0 w2 hp => ?_)
  exact ev_bu 6 (Nat.le_refl 6) (K r0 w2 hp)
set_option maxRecDepth 8000 in
theorem cJ1_newString {G : GX} {x : Nat → Nat → Int32} {T : va_W} {y m i k : Nat} {f : Nat → Int32} (hy : bv_ G T y m f) (hi : 0 < i) (hk : 0 < k) (hm : i + k ≤ m) (hm2 : m ≤ 200) (hf : fb_ f m) : BigP G 4 220 mJ1_newString_b4f7a [.ref y, .int (nI i), .int (nI k)] (x, T) (fun r0 w2 => ∃ s z g, r0 = some (dy s) ∧ w2 = (x, T ++ [stO s z, byA G z k g]) ∧ ∀ t, t < k → g t = f (i + t)) := by
  refine bp_of (by decide +kernel) rfl (Nat.le_of_ble_eq_true rfl) ?_
  show Ev G 4 220 mJ1_newString_b4f7a 0 [some (.ref y), some (.int (nI i)), some (.int (nI k))] [] (x, T) _
  refine ev_iload_n dJ1_newString_b4f7a_0 rfl ?_
  refine ev_if_ne_t (tgt := 7) dJ1_newString_b4f7a_1 (by decide) (fun q => by have := (nI_eq (b := 0) (by omega) (by decide)).mp q; omega) ?_
  refine ev_newT (w := (x, T)) mk_J1_1 (by decide) dJ1_newString_b4f7a_7 (fun s => ?_)
  refine ev_w (w' := (x, T ++ [(s, .inr (0, df_J0))])) rfl ?_
  refine ev_dup dJ1_newString_b4f7a_10 rfl ?_
  refine ev_aload_n dJ1_newString_b4f7a_11 rfl ?_
  refine ev_iload_n dJ1_newString_b4f7a_12 rfl ?_
  refine ev_iload_n dJ1_newString_b4f7a_13 rfl ?_
  refine ev_iload_n dJ1_newString_b4f7a_14 rfl ?_
  refine ev_iadd dJ1_newString_b4f7a_15 ?_
  refine ev_top (nI_add _ _) ?_
  refine cJ1_ns2 (cJ1_ns1 hy hi hm hm2 hf) (fun r0 w2 hp => ?_)
  obtain ⟨z, g, rfl, rfl, hg, -⟩ := hp
  refine ev_w (w' := (x, T ++ [(s, .inr (0, df_J0)), byA G z k g])) (by rw [ta1, Nat.add_sub_cancel_left]) ?_
  exact cJ1_newS19 hg
set_option maxRecDepth 8000 in
theorem cJ3_checkFT {G : GX} {w : WS} {i j n : Nat} (h : i ≤ j) (h2 : j ≤ n) (hn : n < 2 ^ 31) {v : Value} (hv : v = .null ∨ v = .ref 4000) : Big G 1 0 mJ3_checkFromToIndex_8c36e [.int (nI i), .int (nI j), .int (nI n), v] w (.inl (some (.int (nI i)))) w := by
  rcases hv with rfl | rfl
  all_goals
    refine big_of (by decide +kernel) (Nat.le_of_ble_eq_true rfl) ?_
    show Ev G 1 0 mJ3_checkFromToIndex_8c36e 0 [some (.int (nI i)), some (.int (nI j)), some (.int (nI n)), some _] [] _ _
    refine ev_iload_n dJ3_checkFromToIndex_8c36e_0 rfl ?_
    refine ev_if_lt_f (tgt := 14) dJ3_checkFromToIndex_8c36e_1 (by decide) (nI_pos (by omega)) ?_
    refine ev_iload_n dJ3_checkFromToIndex_8c36e_4 rfl ?_
    refine ev_iload_n dJ3_checkFromToIndex_8c36e_5 rfl ?_
    refine ev_icmp_gt_f (tgt := 14) dJ3_checkFromToIndex_8c36e_6 (by decide) (nI_nlt h (by omega)) ?_
    refine ev_iload_n dJ3_checkFromToIndex_8c36e_9 rfl ?_
    refine ev_iload_n dJ3_checkFromToIndex_8c36e_10 rfl ?_
    refine ev_icmp_le_t (tgt := 22) dJ3_checkFromToIndex_8c36e_11 (by decide) (Int32.not_lt.mp (nI_nlt h2 hn)) ?_
    refine ev_iload_n dJ3_checkFromToIndex_8c36e_22 rfl ?_
    exact ev_iret dJ3_checkFromToIndex_8c36e_23 rfl rfl rfl rfl
set_option maxRecDepth 8000 in
theorem cJ0_checkBE {G : GX} {w : WS} {i j n : Nat} (h : i ≤ j) (h2 : j ≤ n) (hn : n < 2 ^ 31) : Big G 2 0 mJ0_checkBoundsBeginEnd_23922 [.int (nI i), .int (nI j), .int (nI n)] w (.inl none) w := by
  refine big_of (by decide +kernel) (Nat.le_of_ble_eq_true rfl) ?_
  show Ev G 2 0 mJ0_checkBoundsBeginEnd_23922 0 [some (.int (nI i)), some (.int (nI j)), some (.int (nI n))] [] _ _
  refine ev_iload_n dJ0_checkBoundsBeginEnd_23922_0 rfl ?_
  refine ev_iload_n dJ0_checkBoundsBeginEnd_23922_1 rfl ?_
  refine ev_iload_n dJ0_checkBoundsBeginEnd_23922_2 rfl ?_
  refine ev_gfmt csJ0_1053 dJ0_checkBoundsBeginEnd_23922_3 (fun v hv => ?_)
  have hc : v.category = 1 := by rcases hv with rfl | rfl <;> rfl
  refine ev_callS kJ0_1062 (as := [.int (nI i), .int (nI j), .int (nI n), v]) (rest := []) (cJ3_checkFT h h2 hn hv) dJ0_checkBoundsBeginEnd_23922_6 rfl (by decide) (by decide) rfl ?_
  refine ev_pop dJ0_checkBoundsBeginEnd_23922_9 rfl ?_
  exact ev_vret dJ0_checkBoundsBeginEnd_23922_10 rfl rfl rfl
set_option maxRecDepth 8000 in
theorem cJ0_substring {G : GX} {x : Nat → Nat → Int32} {T : va_W} {s i : Nat} {L : List Nat} (hs : ∀ U, str_ G U s L) (hi : i < L.length) (hm : L.length ≤ 100) : BigP G 5 220 mJ0_substring_37a41 [.ref s, .int (nI i), .int (nI L.length)] (x, T) (fun r0 w2 => ∃ s2 T2, r0 = some (.ref s2) ∧ w2 = (x, T ++ T2) ∧ ∀ U, (∀ q ∈ T2, q ∈ U) → str_ G U s2 (L.drop i)) := by
  obtain ⟨f, hq, hx⟩ := id (hs T)
  refine bp_of (by decide +kernel) rfl (Nat.le_of_ble_eq_true rfl) ?_
  show Ev G 5 220 mJ0_substring_37a41 0 [some (.ref s), some (.int (nI i)), some (.int (nI L.length)), none, none] [] (x, T) _
  refine ev_aload_n dJ0_substring_37a41_0 rfl ?_
  refine ev_callVg (w := (x, T)) kJ0_505 (as := []) (rest := []) (sv_rv hq) (cJ0_length hq) dJ0_substring_37a41_1 rfl (by decide) (by decide) rfl ?_
  refine ev_ist3 dJ0_substring_37a41_4 (by decide) rfl ?_
  refine ev_iload_n dJ0_substring_37a41_5 rfl ?_
  refine ev_iload_n dJ0_substring_37a41_6 rfl ?_
  refine ev_iload_n dJ0_substring_37a41_7 rfl ?_
  refine ev_callS (w := (x, T)) kJ0_521 (as := [.int (nI i), .int (nI L.length), .int (nI L.length)]) (rest := []) (cJ0_checkBE (by omega) (Nat.le_refl _) (by omega)) dJ0_substring_37a41_8 rfl (by decide) (by decide) rfl ?_
  refine ev_iload_n dJ0_substring_37a41_11 rfl ?_
  by_cases h0 : i = 0
  · subst h0
    refine ev_if_ne_f (tgt := 22) dJ0_substring_37a41_12 (by decide) rfl ?_
    refine ev_iload_n dJ0_substring_37a41_15 rfl ?_
    refine ev_iload_n dJ0_substring_37a41_16 rfl ?_
    refine ev_icmp_ne_f (tgt := 22) dJ0_substring_37a41_17 (by decide) rfl ?_
    refine ev_aload_n dJ0_substring_37a41_20 rfl ?_
    exact ev_aretP dJ0_substring_37a41_21 rfl (Or.inl ⟨_, rfl⟩) ⟨s, [], rfl, by rw [List.append_nil], fun U _ => by rw [List.drop_zero]; exact hs U⟩
  · refine ev_if_ne_t (tgt := 22) dJ0_substring_37a41_12 (by decide) (fun q => h0 ((nI_eq (b := 0) (by omega) (by decide)).mp q)) ?_
    refine ev_iload_n dJ0_substring_37a41_22 rfl ?_
    refine ev_iload_n dJ0_substring_37a41_23 rfl ?_
    refine ev_isub dJ0_substring_37a41_24 ?_
    refine ev_top (pk_sub (by omega)) ?_
    refine ev_ist4 dJ0_substring_37a41_25 (by decide) rfl ?_
    refine ev_aload_n dJ0_substring_37a41_27 rfl ?_
    refine ev_callVg (w := (x, T)) kJ0_492 (as := []) (rest := []) (sv_rv hq) (cJ0_isLatin1 hq) dJ0_substring_37a41_28 rfl (by decide) (by decide) rfl ?_
    refine ev_if_eq_f (tgt := 47) dJ0_substring_37a41_31 (by decide) (by decide) ?_
    refine ev_aload_n dJ0_substring_37a41_34 rfl ?_
    refine ev_sval (w := (x, T)) hq fJ0_9 dJ0_substring_37a41_35 (fun y hy => ?_)
    refine ev_iload_n dJ0_substring_37a41_38 rfl ?_
    refine ev_iload dJ0_substring_37a41_39 rfl ?_
    refine ev_callSP (w := (x, T)) kJ0_685 (as := [.ref y, .int (nI i), .int (nI (L.length - i))]) (rest := []) (cJ1_newString hy (by omega) (by omega) (by omega) (by omega) (fb_tx hx)) dJ0_substring_37a41_41 rfl (by decide) (by decide) rfl (fun r0 w2 hp => ?_)
    obtain ⟨s2, z, g, rfl, rfl, hg⟩ := hp
    refine ev_goto (tgt := 57) dJ0_substring_37a41_44 (by decide) ?_
    exact ev_aretP dJ0_substring_37a41_57 rfl (Or.inl ⟨_, rfl⟩) ⟨10000 + s2, _, rfl, rfl, fun U hU => sub_str (s := s2) (z := z) hx hi hg (hU _ (by simp)) (hU _ (by simp))⟩
end
