/-! the JDK's strings and builders -/
def sbO (a v n : Nat) : Nat × va_E := (a, .inr (1, [.ref v, .int 0, .int 0, .int (nI n)]))
def byA (G : GX) (v m : Nat) (f : Nat → Int32) : Nat × va_E := (v, .inl (gC G 2, m, .inl f))
def stO (a v : Nat) : Nat × va_E := (a, .inr (0, [.ref v, .int 0, .int 0, .int 0]))
theorem tl0 {α : Type} {T r : List α} {p : α} : (T ++ p :: r)[T.length]? = some p := by simp
theorem tl1 {α : Type} {T r : List α} {p q : α} : (T ++ p :: q :: r)[T.length + 1]? = some q := by
  rw [List.getElem?_append_right (by omega), show T.length + 1 - T.length = 1 by omega]; rfl
theorem tl2 {α : Type} {T r : List α} {p q z : α} : (T ++ p :: q :: z :: r)[T.length + 2]? = some z := by
  rw [List.getElem?_append_right (by omega), show T.length + 2 - T.length = 2 by omega]; rfl
theorem tl3 {α : Type} {T r : List α} {p q z y : α} : (T ++ p :: q :: z :: y :: r)[T.length + 3]? = some y := by
  rw [List.getElem?_append_right (by omega), show T.length + 3 - T.length = 3 by omega]; rfl
theorem ts0 {α : Type} {T r : List α} {p p' : α} : (T ++ p :: r).set T.length p' = T ++ p' :: r := by simp
theorem ts1 {α : Type} {T r : List α} {p q q' : α} : (T ++ p :: q :: r).set (T.length + 1) q' = T ++ p :: q' :: r := by
  rw [List.set_append_right _ _ (by omega), show T.length + 1 - T.length = 1 by omega]; rfl
theorem ts2 {α : Type} {T r : List α} {p q z z' : α} : (T ++ p :: q :: z :: r).set (T.length + 2) z' = T ++ p :: q :: z' :: r := by
  rw [List.set_append_right _ _ (by omega), show T.length + 2 - T.length = 2 by omega]; rfl
theorem ts3 {α : Type} {T r : List α} {p q z y y' : α} : (T ++ p :: q :: z :: y :: r).set (T.length + 3) y' = T ++ p :: q :: z :: y' :: r := by
  rw [List.set_append_right _ _ (by omega), show T.length + 3 - T.length = 3 by omega]; rfl
theorem ta2 {α : Type} {T : List α} {p q z : α} : (T ++ [p, q]) ++ [z] = T ++ [p, q, z] := by simp
theorem ta3 {α : Type} {T : List α} {p q y z : α} : (T ++ [p, q, y]) ++ [z] = T ++ [p, q, y, z] := by simp
theorem ta1 {α : Type} {T : List α} {p z : α} : (T ++ [p]) ++ [z] = T ++ [p, z] := by simp
theorem sh0l (x : Int32) : x <<< ((0 : Int32) &&& 31) = x := by
  rw [show ((0 : Int32) &&& 31) = 0 from by decide]
  exact Int32.shiftLeft_zero
theorem sh0r (x : Int32) : x >>> ((0 : Int32) &&& 31) = x := by
  rw [show ((0 : Int32) &&& 31) = 0 from by decide]
  exact Int32.shiftRight_zero
theorem mem_l {α : Type} {T r : List α} {q : α} (h : q ∈ T) : q ∈ T ++ r := List.mem_append_left _ h
def fb_ (f : Nat → Int32) (m : Nat) : Prop := ∀ t, t < m → fits .byte (.int (f t)) = true
theorem fb_cpy {f g : Nat → Int32} {i j k m : Nat} (hf : ∀ t, t < k → fits .byte (.int (f (i + t))) = true) (hg : fb_ g m) : fb_ (va_cpy f g i j k) m := by
  intro t ht
  by_cases h : j ≤ t ∧ t < j + k
  · rw [pk_cpy_in h.1 h.2]
    exact hf (t - j) (by omega)
  · rw [pk_cpy_out (by omega)]
    exact hg t ht
theorem fb_0 {m : Nat} : fb_ (fun _ => 0) m := fun _ _ => (by decide : fits FieldType.byte (Value.int (0 : Int32)) = true)
theorem fb_tx {f : Nat → Int32} {L : List Nat} (h : tx_ f L) : fb_ f L.length := fun t ht => by rw [h.2 t ht]; exact (by_fit ⟨_, tx_lt h ht⟩).1
theorem pk_le0 {q m : Nat} (h : q ≤ m) (hm : m < 2 ^ 30) : nI q - nI m ≤ 0 := by
  rw [Int32.le_iff_toInt_le, pk_sub_toInt (by omega) (by omega), Int32.toInt_zero]
  omega
theorem pk_gt0 {q m : Nat} (h : m < q) (hq : q < 2 ^ 30) : ¬ nI q - nI m ≤ 0 := by
  rw [Int32.le_iff_toInt_le, pk_sub_toInt (by omega) (by omega), Int32.toInt_zero]
  omega
theorem mx_nI {g p : Nat} (hg : g < 2 ^ 31) (hp : p < 2 ^ 31) : (if nI g < nI p then nI p else nI g) = nI (max g p) := by
  by_cases h : g < p
  · rw [if_pos (nI_lt h hp), Nat.max_eq_right (by omega)]
  · rw [if_neg (nI_nlt (by omega) hg), Nat.max_eq_left (by omega)]
theorem mn_nI {a k : Nat} (h : k ≤ a) (ha : a < 2 ^ 31) : (if nI k < nI a then nI k else nI a) = nI k := by
  by_cases q : k < a
  · rw [if_pos (nI_lt q ha)]
  · rw [if_neg (nI_nlt (by omega) (by omega)), show a = k by omega]
theorem upd_s {f : Nat → Int32} {k : Nat} {x : Int32} : upd f k x k = x := if_pos rfl
theorem upd_n {f : Nat → Int32} {k j : Nat} {x : Int32} (h : j ≠ k) : upd f k x j = f j := if_neg h
theorem fb_upd {f : Nat → Int32} {m k : Nat} {x : Int32} (h : fb_ f m) (hx : fits .byte (.int x) = true) : fb_ (upd f k x) m := fun t ht => by
  by_cases e : t = k
  · rw [e, upd_s]; exact hx
  · rw [upd_n e]; exact h t ht
theorem pC_char {c : Nat} (h : c < 65536) : narrow .char (.int (nI c)) = .int (nI c) := (pk_charN h).1
theorem ev_aretB {G : GX} {d b : Nat} {M : MT} {pc : Nat} {ls : List (Option Value)} {w w' : WS} {v : Nat} {o : OT} {rt : FieldType} (hd : decode M.2.1 pc = .ok (.areturn, 1)) (hr : M.2.2.2.1 = some rt) (ht : (∃ n, rt = .object n) ∨ ∃ t, rt = .array t) (ho : o = .inl (some (.ref v))) (hw : w' = w) : Ev G d b M pc ls [.ref v] w (zu_ G o w') := by
  intro p e R s m args below meth c H locs cells slots lsA C r hP hD hS hL
  subst ho hw
  refine W.widen (k := R.cells) (n := R.slots) (by have := r.2.2.1; omega) (by have := r.2.2.2; omega) (vx_ret ?_)
  exact W.aret C.2.1 C.2.2.1 (C.2.2.2.2.1.trans hr) ht (Or.inr ⟨_, rfl⟩) (fun t ht hW => ⟨⟨_, rfl, rfl, by rw [ht]; exact ⟨hP, hD⟩⟩, hS.F ht⟩) hS.2.2 hd C.2.2.2.2.2.2.2.1.1
section
variable {G : GX}
set_option maxRecDepth 8000 in
theorem cJ0_coder {G : GX} {w : WS} {x n : Nat} {f : Nat → Int32} (hs : sv_ G w.2 x n f) : Big G 1 0 mJ0_coder_7d493 [.ref x] w (.inl (some (.int 0))) w := by
  refine big_of (by decide +kernel) (Nat.le_of_ble_eq_true rfl) ?_
  show Ev G 1 0 mJ0_coder_7d493 0 [some (.ref x)] [] _ _
  refine ev_gcomp csJ0_38 dJ0_coder_7d493_0 ?_
  refine ev_if_eq_f (tgt := 13) dJ0_coder_7d493_3 (by decide) (by decide) ?_
  refine ev_aload_n dJ0_coder_7d493_6 rfl ?_
  refine ev_scod hs fJ0_15 dJ0_coder_7d493_7 ?_
  refine ev_goto (tgt := 14) dJ0_coder_7d493_10 (by decide) ?_
  exact ev_iret dJ0_coder_7d493_14 rfl rfl rfl rfl
set_option maxRecDepth 8000 in
theorem cJ0_isLatin1 {G : GX} {w : WS} {x n : Nat} {f : Nat → Int32} (hs : sv_ G w.2 x n f) : Big G 1 0 mJ0_isLatin1_aae02 [.ref x] w (.inl (some (.int (nI 1)))) w := by
  refine big_of (by decide +kernel) (Nat.le_of_ble_eq_true rfl) ?_
  show Ev G 1 0 mJ0_isLatin1_aae02 0 [some (.ref x)] [] _ _
  refine ev_gcomp csJ0_38 dJ0_isLatin1_aae02_0 ?_
  refine ev_if_eq_f (tgt := 17) dJ0_isLatin1_aae02_3 (by decide) (by decide) ?_
  refine ev_aload_n dJ0_isLatin1_aae02_6 rfl ?_
  refine ev_scod hs fJ0_15 dJ0_isLatin1_aae02_7 ?_
  refine ev_if_ne_f (tgt := 17) dJ0_isLatin1_aae02_10 (by decide) (by decide) ?_
  refine ev_iconst dJ0_isLatin1_aae02_13 ic1 ?_
  refine ev_goto (tgt := 18) dJ0_isLatin1_aae02_14 (by decide) ?_
  exact ev_iret dJ0_isLatin1_aae02_18 rfl (by decide) rfl rfl
theorem sv_rv {w : WS} {x n : Nat} {f : Nat → Int32} (hs : sv_ G w.2 x n f) : rvc_ G w x "java/lang/String" := by
  rcases hs with ⟨a, v, h, z, rfl, h1, h2⟩ | ⟨i, hi, rfl, -⟩
  · obtain ⟨k, hk⟩ := List.mem_iff_getElem?.mp h1
    exact rv_T hk rfl rfl
  · exact rv_S hi
set_option maxRecDepth 8000 in
theorem cJ0_length {G : GX} {w : WS} {x n : Nat} {f : Nat → Int32} (hs : sv_ G w.2 x n f) : Big G 2 0 mJ0_length_8abf5 [.ref x] w (.inl (some (.int (nI n)))) w := by
  refine big_of (by decide +kernel) (Nat.le_of_ble_eq_true rfl) ?_
  show Ev G 2 0 mJ0_length_8abf5 0 [some (.ref x)] [] _ _
  refine ev_aload_n dJ0_length_8abf5_0 rfl ?_
  refine ev_sval hs fJ0_9 dJ0_length_8abf5_1 (fun y hy => ?_)
  refine ev_blen hy dJ0_length_8abf5_4 ?_
  refine ev_aload_n dJ0_length_8abf5_5 rfl ?_
  refine ev_callVg kJ0_335 (sv_rv hs) (cJ0_coder hs) dJ0_length_8abf5_6 rfl (by decide) (by decide) rfl ?_
  refine ev_ishr dJ0_length_8abf5_9 (sh0r _) ?_
  exact ev_iret dJ0_length_8abf5_10 rfl rfl rfl rfl
set_option maxRecDepth 8000 in
theorem cJ3_checkIndex {G : GX} {w : WS} {i n : Nat} (h : i < n) (hn : n < 2 ^ 31) {v : Value} (hv : v = .null ∨ v = .ref 4000) : Big G 1 0 mJ3_checkIndex_8e157 [.int (nI i), .int (nI n), v] w (.inl (some (.int (nI i)))) w := by
  rcases hv with rfl | rfl
  all_goals
    refine big_of (by decide +kernel) (Nat.le_of_ble_eq_true rfl) ?_
    show Ev G 1 0 mJ3_checkIndex_8e157 0 [some (.int (nI i)), some (.int (nI n)), some _] [] _ _
    refine ev_iload_n dJ3_checkIndex_8e157_0 rfl ?_
    refine ev_if_lt_f (tgt := 9) dJ3_checkIndex_8e157_1 (by decide) (nI_pos (by omega)) ?_
    refine ev_iload_n dJ3_checkIndex_8e157_4 rfl ?_
    refine ev_iload_n dJ3_checkIndex_8e157_5 rfl ?_
    refine ev_icmp_lt_t (tgt := 16) dJ3_checkIndex_8e157_6 (by decide) (nI_lt h hn) ?_
    refine ev_iload_n dJ3_checkIndex_8e157_16 rfl ?_
    exact ev_iret dJ3_checkIndex_8e157_17 rfl rfl rfl rfl
set_option maxRecDepth 8000 in
theorem cJ0_checkIndex {G : GX} {w : WS} {i n : Nat} (h : i < n) (hn : n < 2 ^ 31) : Big G 2 0 mJ0_checkIndex_df160 [.int (nI i), .int (nI n)] w (.inl none) w := by
  refine big_of (by decide +kernel) (Nat.le_of_ble_eq_true rfl) ?_
  show Ev G 2 0 mJ0_checkIndex_df160 0 [some (.int (nI i)), some (.int (nI n))] [] _ _
  refine ev_iload_n dJ0_checkIndex_df160_0 rfl ?_
  refine ev_iload_n dJ0_checkIndex_df160_1 rfl ?_
  refine ev_gfmt csJ0_1053 dJ0_checkIndex_df160_2 (fun v hv => ?_)
  have hc : v.category = 1 := by rcases hv with rfl | rfl <;> rfl
  refine ev_callS kJ0_1059 (as := [.int (nI i), .int (nI n), v]) (rest := []) (cJ3_checkIndex h hn hv) dJ0_checkIndex_df160_5 rfl (by decide) (by decide) rfl ?_
  refine ev_pop dJ0_checkIndex_df160_8 rfl ?_
  exact ev_vret dJ0_checkIndex_df160_9 rfl rfl rfl
set_option maxRecDepth 8000 in
theorem cJ1_charAt {G : GX} {w : WS} {y n i : Nat} {f : Nat → Int32} (hy : bv_ G w.2 y n f) (hi : i < n) (hn : n ≤ 1000) {c : Nat} (hc : f i = nI c) (hl : c < 128) : Big G 3 0 mJ1_charAt_3b067 [.ref y, .int (nI i)] w (.inl (some (.int (nI c)))) w := by
  refine big_of (by decide +kernel) (Nat.le_of_ble_eq_true rfl) ?_
  show Ev G 3 0 mJ1_charAt_3b067 0 [some (.ref y), some (.int (nI i))] [] _ _
  refine ev_iload_n dJ1_charAt_3b067_0 rfl ?_
  refine ev_aload_n dJ1_charAt_3b067_1 rfl ?_
  refine ev_blen hy dJ1_charAt_3b067_2 ?_
  refine ev_callS kJ1_9 (as := [.int (nI i), .int (nI n)]) (rest := []) (cJ0_checkIndex hi (by omega)) dJ1_charAt_3b067_3 rfl (by decide) (by decide) rfl ?_
  refine ev_aload_n dJ1_charAt_3b067_6 rfl ?_
  refine ev_iload_n dJ1_charAt_3b067_7 rfl ?_
  refine ev_bld hy dJ1_charAt_3b067_8 rfl hi hn ?_
  rw [hc]
  refine ev_sipush (v := nI 255) dJ1_charAt_3b067_9 (by decide) ?_
  refine ev_iand dJ1_charAt_3b067_12 ?_
  refine ev_top (by_fit ⟨c, hl⟩).2.2.2 ?_
  refine ev_i2c dJ1_charAt_3b067_13 (pC_i2c (by omega)) ?_
  exact ev_iret dJ1_charAt_3b067_14 rfl (pC_char (by omega)) rfl rfl
set_option maxRecDepth 8000 in
theorem cJ0_charAt {G : GX} {w : WS} {x i : Nat} {L : List Nat} (hs : str_ G w.2 x L) (hi : i < L.length) (hn : L.length ≤ 1000) : Big G 4 0 mJ0_charAt_5068e [.ref x, .int (nI i)] w (.inl (some (.int (nI (L.getD i 0))))) w := by
  refine big_of (by decide +kernel) (Nat.le_of_ble_eq_true rfl) ?_
  show Ev G 4 0 mJ0_charAt_5068e 0 [some (.ref x), some (.int (nI i))] [] _ _
  obtain ⟨f, hs, ht⟩ := hs
  refine ev_aload_n dJ0_charAt_5068e_0 rfl ?_
  refine ev_callVg kJ0_492 (as := []) (rest := []) (sv_rv hs) (cJ0_isLatin1 hs) dJ0_charAt_5068e_1 rfl (by decide) (by decide) rfl ?_
  refine ev_if_eq_f (tgt := 16) dJ0_charAt_5068e_4 (by decide) (by decide) ?_
  refine ev_aload_n dJ0_charAt_5068e_7 rfl ?_
  refine ev_sval hs fJ0_9 dJ0_charAt_5068e_8 (fun y hy => ?_)
  refine ev_iload_n dJ0_charAt_5068e_11 rfl ?_
  refine ev_callS kJ0_495 (as := [.ref y, .int (nI i)]) (rest := []) (cJ1_charAt hy hi hn (ht.2 i hi) (tx_lt ht hi)) dJ0_charAt_5068e_12 rfl (by decide) (by decide) rfl ?_
  exact ev_iret dJ0_charAt_5068e_15 rfl (pC_char (by have := tx_lt ht hi; omega)) rfl rfl
set_option maxRecDepth 8000 in
theorem cJ5_isLatin1 {G : GX} {x : Nat → Nat → Int32} {T r : va_W} {a v n : Nat}  : Big G 1 0 mJ5_isLatin1_aae02 [dy a] (x, T ++ sbO a v n :: r) (.inl (some (.int (nI 1)))) (x, T ++ sbO a v n :: r) := by
  refine big_of (by decide +kernel) (Nat.le_of_ble_eq_true rfl) ?_
  show Ev G 1 0 mJ5_isLatin1_aae02 0 [some (dy a)] [] (x, T ++ sbO a v n :: r) _
  refine ev_gcomp csJ5_18 dJ5_isLatin1_aae02_0 ?_
  refine ev_if_eq_f (tgt := 17) dJ5_isLatin1_aae02_3 (by decide) (by decide) ?_
  refine ev_aload_n dJ5_isLatin1_aae02_6 rfl ?_
  refine ev_getTI fJ5_22 tl0 dJ5_isLatin1_aae02_7 rfl ?_
  refine ev_if_ne_f (tgt := 17) dJ5_isLatin1_aae02_10 (by decide) (by decide) ?_
  refine ev_iconst dJ5_isLatin1_aae02_13 ic1 ?_
  refine ev_goto (tgt := 18) dJ5_isLatin1_aae02_14 (by decide) ?_
  exact ev_iret dJ5_isLatin1_aae02_18 rfl (by decide) rfl rfl
set_option maxRecDepth 8000 in
theorem cJ5_getValue {G : GX} {x : Nat → Nat → Int32} {T r : va_W} {a v n : Nat}  : Big G 1 0 mJ5_getValue_6d5f1 [dy a] (x, T ++ sbO a v n :: r) (.inl (some (dy v))) (x, T ++ sbO a v n :: r) := by
  refine big_of (by decide +kernel) (Nat.le_of_ble_eq_true rfl) ?_
  show Ev G 1 0 mJ5_getValue_6d5f1 0 [some (dy a)] [] (x, T ++ sbO a v n :: r) _
  refine ev_aload_n dJ5_getValue_6d5f1_0 rfl ?_
  refine ev_getTR fJ5_15 tl0 dJ5_getValue_6d5f1_1 rfl ?_
  exact ev_aretB dJ5_getValue_6d5f1_4 rfl (Or.inr ⟨_, rfl⟩) rfl rfl
set_option maxRecDepth 8000 in
theorem cJ5_length {G : GX} {x : Nat → Nat → Int32} {T r : va_W} {a v n : Nat}  : Big G 1 0 mJ5_length_8abf5 [dy a] (x, T ++ sbO a v n :: r) (.inl (some (.int (nI n)))) (x, T ++ sbO a v n :: r) := by
  refine big_of (by decide +kernel) (Nat.le_of_ble_eq_true rfl) ?_
  show Ev G 1 0 mJ5_length_8abf5 0 [some (dy a)] [] (x, T ++ sbO a v n :: r) _
  refine ev_aload_n dJ5_length_8abf5_0 rfl ?_
  refine ev_getTI fJ5_79 tl0 dJ5_length_8abf5_1 rfl ?_
  exact ev_iret dJ5_length_8abf5_4 rfl rfl rfl rfl
set_option maxRecDepth 8000 in
theorem cJ4_length {G : GX} {x : Nat → Nat → Int32} {T r : va_W} {a v n : Nat}  : Big G 2 0 mJ4_length_8abf5 [dy a] (x, T ++ sbO a v n :: r) (.inl (some (.int (nI n)))) (x, T ++ sbO a v n :: r) := by
  refine big_of (by decide +kernel) (Nat.le_of_ble_eq_true rfl) ?_
  show Ev G 2 0 mJ4_length_8abf5 0 [some (dy a)] [] (x, T ++ sbO a v n :: r) _
  refine ev_aload_n dJ4_length_8abf5_0 rfl ?_
  refine ev_callOg oJ4_343 (as := []) (rest := []) (rv_T (w := (x, T ++ sbO a v n :: r)) tl0 rfl rfl) cJ5_length dJ4_length_8abf5_1 rfl (by decide) (by decide) rfl ?_
  exact ev_iret dJ4_length_8abf5_4 rfl rfl rfl rfl
set_option maxRecDepth 8000 in
theorem cJ8_newLength {G : GX} {w : WS} {o g p : Nat} (ho : o ≤ 200) (hg : g ≤ 200) (hp : p ≤ 500) (h0 : 0 < o + max g p) : Big G 1 0 mJ8_newLength_cabcc [.int (nI o), .int (nI g), .int (nI p)] w (.inl (some (.int (nI (o + max g p))))) w := by
  refine big_of (by decide +kernel) (Nat.le_of_ble_eq_true rfl) ?_
  show Ev G 1 0 mJ8_newLength_cabcc 0 [some (.int (nI o)), some (.int (nI g)), some (.int (nI p)), none] [] _ _
  refine ev_iload_n dJ8_newLength_cabcc_0 rfl ?_
  refine ev_iload_n dJ8_newLength_cabcc_1 rfl ?_
  refine ev_iload_n dJ8_newLength_cabcc_2 rfl ?_
  refine ev_max aJ8_194 dJ8_newLength_cabcc_3 rfl ?_
  refine ev_top (mx_nI (by omega) (by omega)) ?_
  refine ev_iadd dJ8_newLength_cabcc_6 ?_
  refine ev_top (nI_add _ _) ?_
  refine ev_ist3 dJ8_newLength_cabcc_7 (by decide) rfl ?_
  refine ev_iconst dJ8_newLength_cabcc_8 ic0 ?_
  refine ev_iload_n dJ8_newLength_cabcc_9 rfl ?_
  refine ev_icmp_ge_f (tgt := 21) dJ8_newLength_cabcc_10 (by decide) (show ¬ nI (o + max g p) ≤ nI 0 from nI_nle (by omega) (by omega)) ?_
  refine ev_iload_n dJ8_newLength_cabcc_13 rfl ?_
  refine ev_ldci ctJ8_200 dJ8_newLength_cabcc_14 ?_
  refine ev_icmp_gt_f (tgt := 21) dJ8_newLength_cabcc_16 (by decide) (show ¬ nI 2147483639 < nI (o + max g p) from nI_nlt (by omega) (by decide)) ?_
  refine ev_iload_n dJ8_newLength_cabcc_19 rfl ?_
  exact ev_iret dJ8_newLength_cabcc_20 rfl rfl rfl rfl
set_option maxRecDepth 8000 in
theorem cJ5_newCapacity {G : GX} {x : Nat → Nat → Int32} {T r : va_W} {a v n m : Nat} {f : Nat → Int32} {q : Nat} (h : m < q) (hq : q ≤ 200) : Big G 2 0 mJ5_newCapacity_0f7a4 [dy a, .int (nI q)] (x, T ++ sbO a v n :: byA G v m f :: r) (.inl (some (.int (nI (m + max (q - m) (m + 2)))))) (x, T ++ sbO a v n :: byA G v m f :: r) := by
  refine big_of (by decide +kernel) (Nat.le_of_ble_eq_true rfl) ?_
  show Ev G 2 0 mJ5_newCapacity_0f7a4 0 [some (dy a), some (.int (nI q)), none, none, none, none] [] (x, T ++ sbO a v n :: byA G v m f :: r) _
  refine ev_aload_n dJ5_newCapacity_0f7a4_0 rfl ?_
  refine ev_getTR fJ5_15 tl0 dJ5_newCapacity_0f7a4_1 rfl ?_
  refine ev_alenT (t := 2) tl1 rfl dJ5_newCapacity_0f7a4_4 ?_
  refine ev_ist2 dJ5_newCapacity_0f7a4_5 (by decide) rfl ?_
  refine ev_iload_n dJ5_newCapacity_0f7a4_6 rfl ?_
  refine ev_aload_n dJ5_newCapacity_0f7a4_7 rfl ?_
  refine ev_getTI fJ5_22 tl0 dJ5_newCapacity_0f7a4_8 rfl ?_
  refine ev_ishl dJ5_newCapacity_0f7a4_11 (sh0l _) ?_
  refine ev_ist3 dJ5_newCapacity_0f7a4_12 (by decide) rfl ?_
  refine ev_iload_n dJ5_newCapacity_0f7a4_13 rfl ?_
  refine ev_iload_n dJ5_newCapacity_0f7a4_14 rfl ?_
  refine ev_isub dJ5_newCapacity_0f7a4_15 ?_
  refine ev_top (pk_sub (by omega)) ?_
  refine ev_ist4 dJ5_newCapacity_0f7a4_16 (by decide) rfl ?_
  refine ev_iload_n dJ5_newCapacity_0f7a4_18 rfl ?_
  refine ev_iload dJ5_newCapacity_0f7a4_19 rfl ?_
  refine ev_iload_n dJ5_newCapacity_0f7a4_21 rfl ?_
  refine ev_iconst dJ5_newCapacity_0f7a4_22 ic2 ?_
  refine ev_aload_n dJ5_newCapacity_0f7a4_23 rfl ?_
  refine ev_getTI fJ5_22 tl0 dJ5_newCapacity_0f7a4_24 rfl ?_
  refine ev_ishl dJ5_newCapacity_0f7a4_27 (sh0l _) ?_
  refine ev_iadd dJ5_newCapacity_0f7a4_28 ?_
  refine ev_top (nI_add _ _) ?_
  refine ev_callS kJ5_114 (as := [.int (nI m), .int (nI (q - m)), .int (nI (m + 2))]) (rest := []) (cJ8_newLength (by omega) (by omega) (by omega) (by omega)) dJ5_newCapacity_0f7a4_29 rfl (by decide) (by decide) rfl ?_
  refine ev_ist5 dJ5_newCapacity_0f7a4_32 (by decide) rfl ?_
  refine ev_iload dJ5_newCapacity_0f7a4_34 rfl ?_
  refine ev_ldci ctJ5_39 dJ5_newCapacity_0f7a4_36 ?_
  refine ev_icmp_ne_t (tgt := 51) dJ5_newCapacity_0f7a4_38 (by decide) (fun z => by have := (nI_eq (a := m + max (q - m) (m + 2)) (b := 2147483647) (by omega) (by decide)).mp z; omega) ?_
  refine ev_iload dJ5_newCapacity_0f7a4_51 rfl ?_
  refine ev_aload_n dJ5_newCapacity_0f7a4_53 rfl ?_
  refine ev_getTI fJ5_22 tl0 dJ5_newCapacity_0f7a4_54 rfl ?_
  refine ev_ishr dJ5_newCapacity_0f7a4_57 (sh0r _) ?_
  exact ev_iret dJ5_newCapacity_0f7a4_58 rfl rfl rfl rfl
set_option maxRecDepth 8000 in
theorem cJ7_copyOf {G : GX} {x : Nat → Nat → Int32} {T : va_W} {p : Nat × va_E} {v m k : Nat} {f : Nat → Int32} (h : m < k) (hk : k ≤ 500) (hf : ∀ t, t < m → fits .byte (.int (f t)) = true) : BigP G 1 510 mJ7_copyOf_9075b [dy v, .int (nI k)] (x, T ++ [p, byA G v m f]) (fun r0 w2 => ∃ v2, r0 = some (dy v2) ∧ w2 = (x, T ++ [p, byA G v m f, byA G v2 k (va_cpy f (fun _ => 0) 0 0 m)])) := by
  refine bp_of (by decide +kernel) rfl (Nat.le_of_ble_eq_true rfl) ?_
  show Ev G 1 510 mJ7_copyOf_9075b 0 [some (dy v), some (.int (nI k)), none] [] (x, T ++ [p, byA G v m f]) _
  refine ev_iload_n dJ7_copyOf_9075b_0 rfl ?_
  refine ev_aload_n dJ7_copyOf_9075b_1 rfl ?_
  refine ev_alenT (t := 2) tl1 rfl dJ7_copyOf_9075b_2 ?_
  refine ev_icmp_ne_t (tgt := 14) dJ7_copyOf_9075b_3 (by decide) (fun z => by have := (nI_eq (by omega) (by omega)).mp z; omega) ?_
  refine ev_iload_n dJ7_copyOf_9075b_14 rfl ?_
  refine ev_newaT (at_ := .byte) (t := 2) (zz := .inl (fun _ => 0)) ac_b rfl rfl ra_b (fun _ => rfl) (by decide) (by omega) (by omega) dJ7_copyOf_9075b_15 (fun v2 => ?_)
  refine ev_w (w' := (x, T ++ [p, byA G v m f, byA G v2 k (fun _ => 0)])) (by rw [ta2]; rfl) ?_
  refine ev_ast2 dJ7_copyOf_9075b_17 (by decide) rfl ?_
  refine ev_aload_n dJ7_copyOf_9075b_18 rfl ?_
  refine ev_iconst dJ7_copyOf_9075b_19 ic0 ?_
  refine ev_aload_n dJ7_copyOf_9075b_20 rfl ?_
  refine ev_iconst dJ7_copyOf_9075b_21 ic0 ?_
  refine ev_aload_n dJ7_copyOf_9075b_22 rfl ?_
  refine ev_alenT (t := 2) tl1 rfl dJ7_copyOf_9075b_23 ?_
  refine ev_iload_n dJ7_copyOf_9075b_24 rfl ?_
  refine ev_min aJ7_304 dJ7_copyOf_9075b_25 rfl ?_
  refine ev_top (y := nI m) (if_neg (nI_nlt (by omega) (by omega))) ?_
  refine ev_bcpy (i := 0) (j := 0) (k := m) (Or.inl ⟨v, rfl, List.mem_of_getElem? tl1⟩) aJ7_150 dJ7_copyOf_9075b_28 rfl rfl rfl tl2 (by omega) (by omega) (by omega) (by omega) (fun t ht => by rw [Nat.zero_add]; exact hf t ht) rfl ts2 ?_
  refine ev_aload_n dJ7_copyOf_9075b_31 rfl ?_
  exact ev_aretP dJ7_copyOf_9075b_32 rfl (Or.inr ⟨_, rfl⟩) ⟨v2, rfl, rfl⟩
set_option maxRecDepth 8000 in
theorem cJ5_ensure {G : GX} {x : Nat → Nat → Int32} {T : va_W} {a v n m : Nat} {f : Nat → Int32} {q : Nat} (hm : m ≤ 120) (hq : q ≤ 60) (hf : fb_ f m) : BigP G 3 510 mJ5_ensureCapacityInternal_d00df [dy a, .int (nI q)] (x, T ++ [sbO a v n, byA G v m f]) (fun r0 w2 => r0 = none ∧ ∃ v2 m2 f2, w2 = (x, T ++ [sbO a v2 n, byA G v2 m2 f2]) ∧ q ≤ m2 ∧ m2 ≤ 120 ∧ (∀ j, j < m → f2 j = f j) ∧ fb_ f2 m2) := by
  refine bp_of (by decide +kernel) rfl (Nat.le_of_ble_eq_true rfl) ?_
  show Ev G 3 510 mJ5_ensureCapacityInternal_d00df 0 [some (dy a), some (.int (nI q)), none] [] (x, T ++ [sbO a v n, byA G v m f]) _
  refine ev_aload_n dJ5_ensureCapacityInternal_d00df_0 rfl ?_
  refine ev_getTR fJ5_15 tl0 dJ5_ensureCapacityInternal_d00df_1 rfl ?_
  refine ev_alenT (t := 2) tl1 rfl dJ5_ensureCapacityInternal_d00df_4 ?_
  refine ev_aload_n dJ5_ensureCapacityInternal_d00df_5 rfl ?_
  refine ev_getTI fJ5_22 tl0 dJ5_ensureCapacityInternal_d00df_6 rfl ?_
  refine ev_ishr dJ5_ensureCapacityInternal_d00df_9 (sh0r _) ?_
  refine ev_ist2 dJ5_ensureCapacityInternal_d00df_10 (by decide) rfl ?_
  refine ev_iload_n dJ5_ensureCapacityInternal_d00df_11 rfl ?_
  refine ev_iload_n dJ5_ensureCapacityInternal_d00df_12 rfl ?_
  refine ev_isub dJ5_ensureCapacityInternal_d00df_13 ?_
  by_cases h : q ≤ m
  · refine ev_if_le_t (tgt := 38) dJ5_ensureCapacityInternal_d00df_14 (by decide) (pk_le0 h (by omega)) ?_
    exact ev_vretP dJ5_ensureCapacityInternal_d00df_38 rfl ⟨rfl, v, m, f, rfl, h, hm, fun _ _ => rfl, hf⟩
  · refine ev_if_le_f (tgt := 38) dJ5_ensureCapacityInternal_d00df_14 (by decide) (pk_gt0 (by omega) (by omega)) ?_
    refine ev_aload_n dJ5_ensureCapacityInternal_d00df_17 rfl ?_
    refine ev_aload_n dJ5_ensureCapacityInternal_d00df_18 rfl ?_
    refine ev_getTR fJ5_15 tl0 dJ5_ensureCapacityInternal_d00df_19 rfl ?_
    refine ev_aload_n dJ5_ensureCapacityInternal_d00df_22 rfl ?_
    refine ev_iload_n dJ5_ensureCapacityInternal_d00df_23 rfl ?_
    refine ev_callUg uJ5_104 (as := [.int (nI q)]) (rest := [dy v, dy a]) (rv_T (w := (x, T ++ [sbO a v n, byA G v m f])) tl0 rfl rfl) (cJ5_newCapacity (by omega) (by omega)) dJ5_ensureCapacityInternal_d00df_24 rfl (by decide) (by decide) rfl ?_
    refine ev_aload_n dJ5_ensureCapacityInternal_d00df_27 rfl ?_
    refine ev_getTI fJ5_22 tl0 dJ5_ensureCapacityInternal_d00df_28 rfl ?_
    refine ev_ishl dJ5_ensureCapacityInternal_d00df_31 (sh0l _) ?_
    refine ev_callSP kJ5_108 (as := [dy v, .int (nI (m + max (q - m) (m + 2)))]) (rest := [dy a]) (cJ7_copyOf (by omega) (by omega) hf) dJ5_ensureCapacityInternal_d00df_32 rfl (by decide) (by decide) rfl (fun r0 w2 hp => ?_)
    obtain ⟨v2, rfl, rfl⟩ := hp
    refine ev_putT (u := .ref v2) fJ5_15 tl0 dJ5_ensureCapacityInternal_d00df_35 (fun hG => cv_dy hG v2) rfl rfl (Nat.le_of_ble_eq_true rfl) ts0 ?_
    refine ev_tl (T' := T ++ [sbO a v2 n, byA G v2 (m + max (q - m) (m + 2)) (va_cpy f (fun _ => 0) 0 0 m)]) (List.Sublist.append (List.Sublist.refl T) (List.Sublist.cons₂ _ (List.Sublist.cons _ (List.Sublist.refl _)))) ?_
    exact ev_vretP dJ5_ensureCapacityInternal_d00df_38 rfl ⟨rfl, v2, _, _, rfl, by omega, by omega, fun j hj => by rw [pk_cpy_in (by omega) (by omega)]; congr 1; omega, fb_cpy (fun t ht => by rw [Nat.zero_add]; exact hf t ht) fb_0⟩
theorem str_T {T r : va_W} {s : Nat} {Ls : List Nat} (h : str_ G T s Ls) : str_ G (T ++ r) s Ls := str_mo h (fun q hq => List.mem_append_left _ hq)
set_option maxRecDepth 8000 in
theorem cJ0_getBytes {G : GX} {x : Nat → Nat → Int32} {T : va_W} {p : Nat × va_E} {v n m s : Nat} {f : Nat → Int32} {Ls : List Nat} (hs : str_ G T s Ls) (hn : n + Ls.length ≤ m) (hm : m ≤ 500) (hfb : fb_ f m) : BigP G 2 0 mJ0_getBytes_840e7 [.ref s, dy v, .int (nI n), .int 0] (x, T ++ [p, byA G v m f]) (fun r0 w2 => r0 = none ∧ ∃ g, w2 = (x, T ++ [p, byA G v m g]) ∧ (∀ j, j < n → g j = f j) ∧ (∀ j, j < Ls.length → g (n + j) = nI (Ls.getD j 0)) ∧ fb_ g m) := by
  refine bp_of (by decide +kernel) rfl (Nat.le_of_ble_eq_true rfl) ?_
  show Ev G 2 0 mJ0_getBytes_840e7 0 [some (.ref s), some (dy v), some (.int (nI n)), some (.int 0)] [] (x, T ++ [p, byA G v m f]) _
  obtain ⟨k0, hq, hx⟩ := str_T (r := [p, byA G v m f]) hs
  refine ev_aload_n dJ0_getBytes_840e7_0 rfl ?_
  refine ev_callVg kJ0_335 (as := []) (rest := []) (sv_rv hq) (cJ0_coder hq) dJ0_getBytes_840e7_1 rfl (by decide) (by decide) rfl ?_
  refine ev_iload_n dJ0_getBytes_840e7_4 rfl ?_
  refine ev_icmp_ne_f (tgt := 28) dJ0_getBytes_840e7_5 (by decide) (by decide) ?_
  refine ev_aload_n dJ0_getBytes_840e7_8 rfl ?_
  refine ev_sval hq fJ0_9 dJ0_getBytes_840e7_9 (fun y hy => ?_)
  refine ev_iconst dJ0_getBytes_840e7_12 ic0 ?_
  refine ev_aload_n dJ0_getBytes_840e7_13 rfl ?_
  refine ev_iload_n dJ0_getBytes_840e7_14 rfl ?_
  refine ev_iload_n dJ0_getBytes_840e7_15 rfl ?_
  refine ev_ishl dJ0_getBytes_840e7_16 (sh0l _) ?_
  refine ev_aload_n dJ0_getBytes_840e7_17 rfl ?_
  refine ev_sval hq fJ0_9 dJ0_getBytes_840e7_18 (fun y2 hy2 => ?_)
  refine ev_blen hy2 dJ0_getBytes_840e7_21 ?_
  refine ev_bcpy (i := 0) (j := n) (k := Ls.length) hy aJ0_212 dJ0_getBytes_840e7_22 rfl rfl rfl tl1 (by omega) hn (by omega) (by omega) (fun t ht => by rw [Nat.zero_add, hx.2 t ht]; exact (by_fit ⟨_, tx_lt hx ht⟩).1) rfl ts1 ?_
  refine ev_goto (tgt := 43) dJ0_getBytes_840e7_25 (by decide) ?_
  exact ev_vretP dJ0_getBytes_840e7_43 rfl ⟨rfl, _, rfl, fun j hj => pk_cpy_out (Or.inl hj), fun j hj => by rw [pk_cpy_in (by omega) (by omega), show 0 + (n + j - n) = j by omega]; exact hx.2 j hj, fb_cpy (fun t ht => by rw [Nat.zero_add]; exact fb_tx hx t ht) hfb⟩
set_option maxRecDepth 8000 in
theorem cJ5_inflateIf {G : GX} {x : Nat → Nat → Int32} {T r : va_W} {a v n : Nat} {s : Nat} {Ls : List Nat} (hs : str_ G (T ++ sbO a v n :: r) s Ls) : Big G 2 0 mJ5_inflateIfNeededFor_a7421 [dy a, .ref s] (x, T ++ sbO a v n :: r) (.inl none) (x, T ++ sbO a v n :: r) := by
  refine big_of (by decide +kernel) (Nat.le_of_ble_eq_true rfl) ?_
  show Ev G 2 0 mJ5_inflateIfNeededFor_a7421 0 [some (dy a), some (.ref s)] [] (x, T ++ sbO a v n :: r) _
  obtain ⟨k0, hq, hx⟩ := hs
  refine ev_gcomp csJ5_18 dJ5_inflateIfNeededFor_a7421_0 ?_
  refine ev_if_eq_f (tgt := 21) dJ5_inflateIfNeededFor_a7421_3 (by decide) (by decide) ?_
  refine ev_aload_n dJ5_inflateIfNeededFor_a7421_6 rfl ?_
  refine ev_getTI fJ5_22 tl0 dJ5_inflateIfNeededFor_a7421_7 rfl ?_
  refine ev_aload_n dJ5_inflateIfNeededFor_a7421_10 rfl ?_
  refine ev_callVg (w := (x, T ++ sbO a v n :: r)) kJ5_40 (as := []) (rest := [.int 0]) (sv_rv hq) (cJ0_coder hq) dJ5_inflateIfNeededFor_a7421_11 rfl (by decide) (by decide) rfl ?_
  refine ev_icmp_eq_t (tgt := 21) dJ5_inflateIfNeededFor_a7421_14 (by decide) rfl ?_
  exact ev_vret dJ5_inflateIfNeededFor_a7421_21 rfl rfl rfl
set_option maxRecDepth 8000 in
theorem cJ5_putStr {G : GX} {x : Nat → Nat → Int32} {T : va_W} {a v n m : Nat} {f : Nat → Int32} {s : Nat} {Ls : List Nat} (hs : str_ G T s Ls) (hn : n + Ls.length ≤ m) (hm : m ≤ 500) (hfb : fb_ f m) : BigP G 3 0 mJ5_putStringAt_47b60 [dy a, .int (nI n), .ref s] (x, T ++ [sbO a v n, byA G v m f]) (fun r0 w2 => r0 = none ∧ ∃ g, w2 = (x, T ++ [sbO a v n, byA G v m g]) ∧ (∀ j, j < n → g j = f j) ∧ (∀ j, j < Ls.length → g (n + j) = nI (Ls.getD j 0)) ∧ fb_ g m) := by
  refine bp_of (by decide +kernel) rfl (Nat.le_of_ble_eq_true rfl) ?_
  show Ev G 3 0 mJ5_putStringAt_47b60 0 [some (dy a), some (.int (nI n)), some (.ref s)] [] (x, T ++ [sbO a v n, byA G v m f]) _
  refine ev_aload_n dJ5_putStringAt_47b60_0 rfl ?_
  refine ev_aload_n dJ5_putStringAt_47b60_1 rfl ?_
  refine ev_callUg uJ5_397 (as := [.ref s]) (rest := []) (rv_T (w := (x, T ++ [sbO a v n, byA G v m f])) tl0 rfl rfl) (cJ5_inflateIf (str_T hs)) dJ5_putStringAt_47b60_2 rfl (by decide) (by decide) rfl ?_
  refine ev_aload_n dJ5_putStringAt_47b60_5 rfl ?_
  refine ev_aload_n dJ5_putStringAt_47b60_6 rfl ?_
  refine ev_getTR fJ5_15 tl0 dJ5_putStringAt_47b60_7 rfl ?_
  refine ev_iload_n dJ5_putStringAt_47b60_10 rfl ?_
  refine ev_aload_n dJ5_putStringAt_47b60_11 rfl ?_
  refine ev_getTI fJ5_22 tl0 dJ5_putStringAt_47b60_12 rfl ?_
  obtain ⟨k0, hq, hx⟩ := str_T (r := [sbO a v n, byA G v m f]) hs
  refine ev_callVP (w := (x, T ++ [sbO a v n, byA G v m f])) kJ5_399 (as := [dy v, .int (nI n), .int 0]) (rest := []) (sv_rv hq) (cJ0_getBytes hs hn hm hfb) dJ5_putStringAt_47b60_15 rfl (by decide) (by decide) rfl (fun r0 w2 hp => ?_)
  obtain ⟨rfl, g, rfl, h1, h2, h3⟩ := hp
  exact ev_vretP dJ5_putStringAt_47b60_18 rfl ⟨rfl, g, rfl, h1, h2, h3⟩
def sbI (G : GX) (x : Nat → Nat → Int32) (T : va_W) (a : Nat) (L : List Nat) (w : WS) : Prop := ∃ v m f, w = (x, T ++ [sbO a v L.length, byA G v m f]) ∧ L.length ≤ m ∧ m ≤ 120 ∧ tx_ f L ∧ fb_ f m
set_option maxRecDepth 8000 in
theorem cJ5_appStr {G : GX} {x : Nat → Nat → Int32} {T : va_W} {a s : Nat} {L Ls : List Nat} {w : WS} (hw : sbI G x T a L w) (hs : str_ G T s Ls) (hl : L.length + Ls.length ≤ 60) : BigP G 4 510 mJ5_append_cf1ce [dy a, .ref s] w (fun r0 w2 => r0 = some (dy a) ∧ sbI G x T a (L ++ Ls) w2) := by
  obtain ⟨v, m, f, rfl, hm, hm2, hx, hfit⟩ := hw
  refine bp_of (by decide +kernel) rfl (Nat.le_of_ble_eq_true rfl) ?_
  show Ev G 4 510 mJ5_append_cf1ce 0 [some (dy a), some (.ref s), none] [] _ _
  refine ev_aload_n dJ5_append_cf1ce_0 rfl ?_
  refine ev_nonnull (tgt := 9) dJ5_append_cf1ce_1 (by decide) ?_
  refine ev_aload_n dJ5_append_cf1ce_9 rfl ?_
  obtain ⟨k0, hq, hy⟩ := str_T (r := [sbO a v L.length, byA G v m f]) hs
  refine ev_callVg (w := (x, T ++ [sbO a v L.length, byA G v m f])) kJ5_32 (as := []) (rest := []) (sv_rv hq) (cJ0_length hq) dJ5_append_cf1ce_10 rfl (by decide) (by decide) rfl ?_
  refine ev_ist2 dJ5_append_cf1ce_13 (by decide) rfl ?_
  refine ev_aload_n dJ5_append_cf1ce_14 rfl ?_
  refine ev_aload_n dJ5_append_cf1ce_15 rfl ?_
  refine ev_getTI fJ5_79 tl0 dJ5_append_cf1ce_16 rfl ?_
  refine ev_iload_n dJ5_append_cf1ce_19 rfl ?_
  refine ev_iadd dJ5_append_cf1ce_20 ?_
  refine ev_top (nI_add _ _) ?_
  refine ev_callUP uJ5_100 (as := [.int (nI (L.length + Ls.length))]) (rest := []) (rv_T (w := (x, T ++ [sbO a v L.length, byA G v m f])) tl0 rfl rfl) (cJ5_ensure hm2 hl hfit) dJ5_append_cf1ce_21 rfl (by decide) (by decide) rfl (fun r0 w2 hp => ?_)
  obtain ⟨rfl, v2, m2, f2, rfl, hm3, hm4, hf2, hb2⟩ := hp
  refine ev_aload_n dJ5_append_cf1ce_24 rfl ?_
  refine ev_aload_n dJ5_append_cf1ce_25 rfl ?_
  refine ev_getTI fJ5_79 tl0 dJ5_append_cf1ce_26 rfl ?_
  refine ev_aload_n dJ5_append_cf1ce_29 rfl ?_
  refine ev_callUP uJ5_208 (as := [.int (nI L.length), .ref s]) (rest := []) (rv_T (w := (x, T ++ [sbO a v2 L.length, byA G v2 m2 f2])) tl0 rfl rfl) (cJ5_putStr hs hm3 (by omega) hb2) dJ5_append_cf1ce_30 rfl (by decide) (by decide) rfl (fun r0 w2 hp => ?_)
  obtain ⟨rfl, g, rfl, hg1, hg2, hg3⟩ := hp
  refine ev_aload_n dJ5_append_cf1ce_33 rfl ?_
  refine ev_dup dJ5_append_cf1ce_34 rfl ?_
  refine ev_getTI fJ5_79 tl0 dJ5_append_cf1ce_35 rfl ?_
  refine ev_iload_n dJ5_append_cf1ce_38 rfl ?_
  refine ev_iadd dJ5_append_cf1ce_39 ?_
  refine ev_top (nI_add _ _) ?_
  refine ev_putT (u := .int (nI (L.length + Ls.length))) (T2 := T ++ [sbO a v2 (L.length + Ls.length), byA G v2 m2 g]) fJ5_79 tl0 dJ5_append_cf1ce_40 (fun _ => rfl) rfl rfl (Nat.le_of_ble_eq_true rfl) ts0 ?_
  refine ev_aload_n dJ5_append_cf1ce_43 rfl ?_
  exact ev_aretP dJ5_append_cf1ce_44 rfl (Or.inl ⟨_, rfl⟩) ⟨rfl, v2, m2, g, by rw [List.length_append], by rw [List.length_append]; exact hm3, hm4, tx_app hx hy (fun j hj => (hg1 j hj).trans (hf2 j (by omega))) (fun j hj => (hg2 j hj).trans (hy.2 j hj).symm), hg3⟩
theorem sb_rv {x : Nat → Nat → Int32} {T : va_W} {a : Nat} {L : List Nat} {w : WS} (h : sbI G x T a L w) : rvc_ G w (10000 + a) "java/lang/StringBuilder" := by
  obtain ⟨v, m, f, rfl, -⟩ := h
  exact rv_T (w := (x, T ++ [sbO a v L.length, byA G v m f])) tl0 rfl rfl
set_option maxRecDepth 8000 in
theorem cJ4_appStr {G : GX} {x : Nat → Nat → Int32} {T : va_W} {a : Nat} {L : List Nat} {w : WS} (hw : sbI G x T a L w) {s : Nat} {Ls : List Nat} (hs : str_ G T s Ls) (hl : L.length + Ls.length ≤ 60) : BigP G 5 510 mJ4_append_15ec4 [dy a, .ref s] w (fun r0 w2 => r0 = some (dy a) ∧ sbI G x T a (L ++ Ls) w2) := by
  refine bp_of (by decide +kernel) rfl (Nat.le_of_ble_eq_true rfl) ?_
  show Ev G 5 510 mJ4_append_15ec4 0 [some (dy a), some (.ref s)] [] _ _
  refine ev_aload_n dJ4_append_15ec4_0 rfl ?_
  refine ev_aload_n dJ4_append_15ec4_1 rfl ?_
  refine ev_callOP oJ4_29 (as := [.ref s]) (rest := []) (sb_rv hw) (cJ5_appStr hw hs hl) dJ4_append_15ec4_2 rfl (by decide) (by decide) rfl (fun r0 w2 hp => ?_)
  obtain ⟨rfl, hp⟩ := hp
  refine ev_pop dJ4_append_15ec4_5 rfl ?_
  refine ev_aload_n dJ4_append_15ec4_6 rfl ?_
  exact ev_aretP dJ4_append_15ec4_7 rfl (Or.inl ⟨_, rfl⟩) ⟨rfl, hp⟩
set_option maxRecDepth 8000 in
theorem cJ1_canEncode {G : GX} {w : WS} {c : Nat} (hc : c < 128) : Big G 1 0 mJ1_canEncode_fc78d [.int (nI c)] w (.inl (some (.int (nI 1)))) w := by
  refine big_of (by decide +kernel) (Nat.le_of_ble_eq_true rfl) ?_
  show Ev G 1 0 mJ1_canEncode_fc78d 0 [some (.int (nI c))] [] _ _
  refine ev_iload_n dJ1_canEncode_fc78d_0 rfl ?_
  refine ev_sipush (v := nI 255) dJ1_canEncode_fc78d_1 (by decide) ?_
  refine ev_icmp_gt_f (tgt := 11) dJ1_canEncode_fc78d_4 (by decide) (nI_nlt (by omega) (by decide)) ?_
  refine ev_iconst dJ1_canEncode_fc78d_7 ic1 ?_
  refine ev_goto (tgt := 12) dJ1_canEncode_fc78d_8 (by decide) ?_
  exact ev_iret dJ1_canEncode_fc78d_12 rfl (by decide) rfl rfl
set_option maxRecDepth 8000 in
theorem cJ5_appChr {G : GX} {x : Nat → Nat → Int32} {T : va_W} {a : Nat} {L : List Nat} {w : WS} (hw : sbI G x T a L w) {c : Nat} (hc : c < 128) (hl : L.length + 1 ≤ 60) : BigP G 4 510 mJ5_append_3fe6f [dy a, .int (nI c)] w (fun r0 w2 => r0 = some (dy a) ∧ sbI G x T a (L ++ [c]) w2) := by
  obtain ⟨v, m, f, rfl, hm, hm2, hx, hfit⟩ := hw
  refine bp_of (by decide +kernel) rfl (Nat.le_of_ble_eq_true rfl) ?_
  show Ev G 4 510 mJ5_append_3fe6f 0 [some (dy a), some (.int (nI c))] [] _ _
  refine ev_aload_n dJ5_append_3fe6f_0 rfl ?_
  refine ev_aload_n dJ5_append_3fe6f_1 rfl ?_
  refine ev_getTI fJ5_79 tl0 dJ5_append_3fe6f_2 rfl ?_
  refine ev_iconst dJ5_append_3fe6f_5 ic1 ?_
  refine ev_iadd dJ5_append_3fe6f_6 ?_
  refine ev_top (nI_add L.length 1) ?_
  refine ev_callUP uJ5_100 (as := [.int (nI (L.length + 1))]) (rest := []) (rv_T (w := (x, T ++ [sbO a v L.length, byA G v m f])) tl0 rfl rfl) (cJ5_ensure hm2 hl hfit) dJ5_append_3fe6f_7 rfl (by decide) (by decide) rfl (fun r0 w2 hp => ?_)
  obtain ⟨rfl, v2, m2, f2, rfl, hm3, hm4, hf2, hb2⟩ := hp
  refine ev_aload_n dJ5_append_3fe6f_10 rfl ?_
  refine ev_callUg (w := (x, T ++ [sbO a v2 L.length, byA G v2 m2 f2])) uJ5_83 (as := []) (rest := []) (rv_T (w := (x, T ++ [sbO a v2 L.length, byA G v2 m2 f2])) tl0 rfl rfl) cJ5_isLatin1 dJ5_append_3fe6f_11 rfl (by decide) (by decide) rfl ?_
  refine ev_if_eq_f (tgt := 45) dJ5_append_3fe6f_14 (by decide) (by decide) ?_
  refine ev_iload_n dJ5_append_3fe6f_17 rfl ?_
  refine ev_callS (w := (x, T ++ [sbO a v2 L.length, byA G v2 m2 f2])) kJ5_191 (as := [.int (nI c)]) (rest := []) (cJ1_canEncode hc) dJ5_append_3fe6f_18 rfl (by decide) (by decide) rfl ?_
  refine ev_if_eq_f (tgt := 45) dJ5_append_3fe6f_21 (by decide) (by decide) ?_
  refine ev_aload_n dJ5_append_3fe6f_24 rfl ?_
  refine ev_getTR fJ5_15 tl0 dJ5_append_3fe6f_25 rfl ?_
  refine ev_aload_n dJ5_append_3fe6f_28 rfl ?_
  refine ev_dup dJ5_append_3fe6f_29 rfl ?_
  refine ev_getTI fJ5_79 tl0 dJ5_append_3fe6f_30 rfl ?_
  refine ev_dupx1 dJ5_append_3fe6f_33 rfl rfl ?_
  refine ev_iconst dJ5_append_3fe6f_34 ic1 ?_
  refine ev_iadd dJ5_append_3fe6f_35 ?_
  refine ev_top (nI_add L.length 1) ?_
  refine ev_putT (u := .int (nI (L.length + 1))) (T2 := T ++ [sbO a v2 (L.length + 1), byA G v2 m2 f2]) fJ5_79 tl0 dJ5_append_3fe6f_36 (fun _ => rfl) rfl rfl (Nat.le_of_ble_eq_true rfl) ts0 ?_
  refine ev_iload_n dJ5_append_3fe6f_39 rfl ?_
  refine ev_i2b dJ5_append_3fe6f_40 (by_fit ⟨c, hc⟩).2.2.1 ?_
  refine ev_bastoreT (T2 := T ++ [sbO a v2 (L.length + 1), byA G v2 m2 (upd f2 L.length (nI c))]) tl1 dJ5_append_3fe6f_41 rfl (by_fit ⟨c, hc⟩).2.1 (by omega) (by omega) ts1 ?_
  refine ev_goto (tgt := 75) dJ5_append_3fe6f_42 (by decide) ?_
  refine ev_aload_n dJ5_append_3fe6f_75 rfl ?_
  exact ev_aretP dJ5_append_3fe6f_76 rfl (Or.inl ⟨_, rfl⟩) ⟨rfl, v2, m2, upd f2 L.length (nI c), by rw [List.length_append]; rfl, by rw [List.length_append]; exact hm3, hm4, tx_app hx ⟨fun c2 h => by rw [List.mem_singleton.mp h]; exact hc, fun j hj => by rw [show j = 0 by simpa using hj]; rfl⟩ (g := fun _ => nI c) (fun j hj => (upd_n (by omega)).trans (hf2 j (by omega))) (fun j hj => by rw [show j = 0 by simpa using hj]; exact upd_s), fb_upd hb2 (by_fit ⟨c, hc⟩).1⟩
set_option maxRecDepth 8000 in
theorem cJ4_appChr {G : GX} {x : Nat → Nat → Int32} {T : va_W} {a : Nat} {L : List Nat} {w : WS} (hw : sbI G x T a L w) {c : Nat} (hc : c < 128) (hl : L.length + 1 ≤ 60) : BigP G 5 510 mJ4_append_cf468 [dy a, .int (nI c)] w (fun r0 w2 => r0 = some (dy a) ∧ sbI G x T a (L ++ [c]) w2) := by
  refine bp_of (by decide +kernel) rfl (Nat.le_of_ble_eq_true rfl) ?_
  show Ev G 5 510 mJ4_append_cf468 0 [some (dy a), some (.int (nI c))] [] _ _
  refine ev_aload_n dJ4_append_cf468_0 rfl ?_
  refine ev_iload_n dJ4_append_cf468_1 rfl ?_
  refine ev_callOP oJ4_50 (as := [.int (nI c)]) (rest := []) (sb_rv hw) (cJ5_appChr hw hc hl) dJ4_append_cf468_2 rfl (by decide) (by decide) rfl (fun r0 w2 hp => ?_)
  obtain ⟨rfl, hp⟩ := hp
  refine ev_pop dJ4_append_cf468_5 rfl ?_
  refine ev_aload_n dJ4_append_cf468_6 rfl ?_
  exact ev_aretP dJ4_append_cf468_7 rfl (Or.inl ⟨_, rfl⟩) ⟨rfl, hp⟩
theorem cl_link : Cond.methodLink RJ7 310 ⟨"[B", "clone", "()Ljava/lang/Object;"⟩ ∈ gd_ := (gc3 183 (by decide +kernel) rfl)
theorem cl_same : Cond.sameMethod "[B" "java/lang/Object" "clone" "()Ljava/lang/Object;" ∈ gd_ := (gc3 184 (by decide +kernel) rfl)
theorem cl_nat : Cond.native ⟨"java/lang/Object", "clone", "()Ljava/lang/Object;"⟩ ∈ gd_ := (gc3 185 (by decide +kernel) rfl)
theorem cl_inst : Cond.instanceMethod ⟨"java/lang/Object", "clone", "()Ljava/lang/Object;"⟩ ∈ gd_ := (gc3 186 (by decide +kernel) rfl)
theorem cl_sel : Cond.selects "[B" ⟨"[B", "clone", "()Ljava/lang/Object;"⟩ ⟨"java/lang/Object", "clone", "()Ljava/lang/Object;"⟩ ∈ gd_ := (gc3 187 (by decide +kernel) rfl)
theorem cl_cast : Cond.castable "[B" "java/lang/Cloneable" ∈ tables_1 := (tc3 188 (by decide +kernel))
theorem cl_cls : Cond.classLink RJ7 311 "[B" ∈ gd_ := (gc3 189 (by decide +kernel) rfl)
theorem cl_fit {cA : ClassId} {n : Nat} {f : Nat → Int32} (h : fb_ f n) : ∀ (i : Nat) (v : Value), (vp_cell cA (n, .inl f)).slots[i]? = some v → fits .byte v = true := by
  intro i v hv
  have hv : (arrV cA n (fun j => .int (f j))).slots[i]? = some v := hv
  have hi : i < n := by
    have := (Array.getElem?_eq_some_iff.mp hv).1
    rwa [arrV_size] at this
  rw [arrV_read _ _ hi] at hv
  cases hv
  exact h i hi
theorem ba_cls {s : State} (hB : bs_ G s s.heap) : s.vm.findClass "[B" = some (gC G 2) := ((bs_K hB).2 2 _ rfl).2
theorem cl_lo {k d n : Nat} (h : k ≤ 8) (h2 : 64 * d + 300 ≤ n) : k + 14 ≤ n := by omega
theorem ev_clone {d b pc : Nat} {M : MT} {ls : List (Option Value)} {st : List Value} {w : WS} {Z : ZT} {v n : Nat} {f : Nat → Int32} (hM : M.1.cls = RJ7) (hv : (v, .inl (gC G 2, n, .inl f)) ∈ w.2) (hf : fb_ f n) (hb : n + 1 ≤ b) (hm : sm_ st = true) (hd : decode M.2.1 pc = .ok (.invokevirtual 310, 3)) (hd2 : decode M.2.1 (pc + 3) = .ok (.checkcast 311, 3))
    (K : ∀ z, Ev G d (b - (n + 1)) M (pc + 6) ls (dy z :: st) (w.1, w.2 ++ [byA G z n f]) Z) : Ev G d b M pc ls (dy v :: st) w Z := by
  intro p e R s m args below meth c H locs cells slots lsA C r hP hD hS hL
  have hts := C.2.2.2.2.2.2.1
  have hB := C.2.2.2.2.2.2.2.2.2
  obtain ⟨k, hk⟩ := List.mem_iff_getElem?.mp hv
  obtain ⟨r1, r2, r3, r4⟩ := r
  have e1 := cv_dy C.1 v
  show W p (gL G) e R s m args below meth c H locs cells slots _ (F0 m pc lsA (cv_ G (dy v) :: st.map (cv_ G)))
  rw [e1]
  have ho : s.vm.findClass RJ7 = some m.cls := by rw [← hM]; exact C.2.2.2.2.2.1
  refine va_clone C.2.1 C.2.2.1 (C.2.2.2.1.trans hL.1.symm) ho (hts _ cl_link) (hts _ cl_same) (hts _ cl_nat) (hts _ cl_inst) (hts _ cl_sel) (C.2.2.2.2.2.2.2.2.2.2.2.2.2.2.2.2.2.2.2 _ cl_cast rfl) (bs_K hB) hP hD hS (fr_up (bs_Z hB)) (115 + k) 2 (x := (n, .inl f)) (by rw [wl_tl]; exact hk) rfl (ba_cls hB) (cl_fit hf) (by omega) ?_ (by omega) (by show slots + n ≤ R.slots; omega) hd (fun z H1 hK1 hP1 hD1 hS1 => ?_)
  · rw [cv_sum]
    exact cl_lo (by simpa [sm_] using hm) r2
  · rw [wl_ta] at hP1 hD1
    have q := K z p e R s m args below meth c H1 locs (cells + (n + 1)) (slots + 16 * (n + 1)) lsA C ⟨r1, r2, by omega, by omega⟩ hP1 hD1 hS1 hL
    have e9 := cv_dy C.1 z
    have q : W p (gL G) e R s m args below meth c H1 locs (cells + (n + 1)) (slots + 16 * (n + 1)) _ (F0 m (pc + 6) lsA (cv_ G (dy z) :: st.map (cv_ G))) := q
    rw [e9] at q
    have hz : ((wl_ G (w.1, w.2 ++ [byA G z n f])))[115 + w.2.length]? = some (z, .inl (gC G 2, n, .inl f)) := by rw [wl_tl]; simp [byA]
    exact va_castA C.2.1 C.2.2.1 ho (hts _ cl_cls) hP1 (115 + w.2.length) hz (ba_cls hB) hd2 (W.widen (by omega) (by show slots + n ≤ slots + 16 * (n + 1); omega) q)
set_option maxRecDepth 8000 in
theorem cJ7_checkLength {G : GX} {w : WS} {i j : Nat} (h : i ≤ j) (hj : j < 2 ^ 31) : Big G 1 0 mJ7_checkLength_df160 [.int (nI i), .int (nI j)] w (.inl none) w := by
  refine big_of (by decide +kernel) (Nat.le_of_ble_eq_true rfl) ?_
  show Ev G 1 0 mJ7_checkLength_df160 0 [some (.int (nI i)), some (.int (nI j))] [] _ _
  refine ev_iload_n dJ7_checkLength_df160_0 rfl ?_
  refine ev_iload_n dJ7_checkLength_df160_1 rfl ?_
  refine ev_icmp_ge_t (tgt := 37) dJ7_checkLength_df160_2 (by decide) (Int32.not_lt.mp (nI_nlt h hj)) ?_
  exact ev_vret dJ7_checkLength_df160_37 rfl rfl rfl
theorem tu0 {α : Type} {U : List α} {z : α} : (U ++ [z])[U.length]? = some z := by simp
theorem tus {α : Type} {U : List α} {z z2 : α} : (U ++ [z]).set U.length z2 = U ++ [z2] := by simp
set_option maxRecDepth 8000 in
theorem cJ7_copyRangeB {G : GX} {x : Nat → Nat → Int32} {U : va_W} {y m i j : Nat} {f : Nat → Int32} (hy : bv_ G U y m f) (hij : i ≤ j) (hj : j ≤ m) (hm : m ≤ 200) (hf : fb_ f m) : BigP G 2 210 mJ7_copyOfRangeByte_39247 [.ref y, .int (nI i), .int (nI j)] (x, U) (fun r0 w2 => ∃ z g, r0 = some (dy z) ∧ w2 = (x, U ++ [byA G z (j - i) g]) ∧ (∀ t, t < j - i → g t = f (i + t)) ∧ fb_ g (j - i)) := by
  refine bp_of (by decide +kernel) rfl (Nat.le_of_ble_eq_true rfl) ?_
  show Ev G 2 210 mJ7_copyOfRangeByte_39247 0 [some (.ref y), some (.int (nI i)), some (.int (nI j)), none, none] [] (x, U) _
  refine ev_iload_n dJ7_copyOfRangeByte_39247_0 rfl ?_
  refine ev_iload_n dJ7_copyOfRangeByte_39247_1 rfl ?_
  refine ev_callS (w := (x, U)) kJ7_343 (as := [.int (nI i), .int (nI j)]) (rest := []) (cJ7_checkLength hij (by omega)) dJ7_copyOfRangeByte_39247_2 rfl (by decide) (by decide) rfl ?_
  refine ev_iload_n dJ7_copyOfRangeByte_39247_5 rfl ?_
  refine ev_iload_n dJ7_copyOfRangeByte_39247_6 rfl ?_
  refine ev_isub dJ7_copyOfRangeByte_39247_7 ?_
  refine ev_top (pk_sub (by omega)) ?_
  refine ev_ist3 dJ7_copyOfRangeByte_39247_8 (by decide) rfl ?_
  refine ev_iload_n dJ7_copyOfRangeByte_39247_9 rfl ?_
  refine ev_newaT (at_ := .byte) (t := 2) (n := j - i) (zz := .inl (fun _ => 0)) ac_b rfl rfl ra_b (fun _ => rfl) (by decide) (by omega) (by omega) dJ7_copyOfRangeByte_39247_10 (fun z => ?_)
  refine ev_w (w' := (x, U ++ [byA G z (j - i) (fun _ => 0)])) rfl ?_
  have hy := bv_mo hy (T' := U ++ [byA G z (j - i) (fun _ => 0)]) (fun q hq => List.mem_append_left _ hq)
  refine ev_ast4 dJ7_copyOfRangeByte_39247_12 (by decide) rfl ?_
  refine ev_aload_n dJ7_copyOfRangeByte_39247_14 rfl ?_
  refine ev_iload_n dJ7_copyOfRangeByte_39247_15 rfl ?_
  refine ev_aload dJ7_copyOfRangeByte_39247_16 rfl ?_
  refine ev_iconst dJ7_copyOfRangeByte_39247_18 ic0 ?_
  refine ev_aload_n dJ7_copyOfRangeByte_39247_19 rfl ?_
  refine ev_blen hy dJ7_copyOfRangeByte_39247_20 ?_
  refine ev_iload_n dJ7_copyOfRangeByte_39247_21 rfl ?_
  refine ev_isub dJ7_copyOfRangeByte_39247_22 ?_
  refine ev_top (pk_sub (by omega)) ?_
  refine ev_iload_n dJ7_copyOfRangeByte_39247_23 rfl ?_
  refine ev_min aJ7_304 dJ7_copyOfRangeByte_39247_24 rfl ?_
  refine ev_top (y := nI (j - i)) (mn_nI (by omega) (by omega)) ?_
  refine ev_bcpy (i := i) (j := 0) (k := j - i) hy aJ7_150 dJ7_copyOfRangeByte_39247_27 rfl rfl rfl tu0 (by omega) (by omega) (by omega) (by omega) (fun t ht => hf (i + t) (by omega)) rfl tus ?_
  refine ev_aload dJ7_copyOfRangeByte_39247_30 rfl ?_
  exact ev_aretP dJ7_copyOfRangeByte_39247_32 rfl (Or.inr ⟨_, rfl⟩) ⟨z, _, rfl, rfl, fun t ht => by rw [pk_cpy_in (by omega) (by omega), Nat.sub_zero], fb_cpy (fun t ht => hf (i + t) (by omega)) fb_0⟩
set_option maxRecDepth 8000 in
theorem cJ7_copyRange {G : GX} {x : Nat → Nat → Int32} {U : va_W} {y m i j : Nat} {f : Nat → Int32} (hy : bv_ G U y m f) (hij : i ≤ j) (hj : j ≤ m) (hm : m ≤ 200) (hf : fb_ f m) (hD : (∃ v, y = 10000 + v ∧ (v, .inl (gC G 2, m, .inl f)) ∈ U) ∨ 0 < i) : BigP G 3 210 mJ7_copyOfRange_39247 [.ref y, .int (nI i), .int (nI j)] (x, U) (fun r0 w2 => ∃ z g, r0 = some (dy z) ∧ w2 = (x, U ++ [byA G z (j - i) g]) ∧ (∀ t, t < j - i → g t = f (i + t)) ∧ fb_ g (j - i)) := by
  refine bp_of (by decide +kernel) rfl (Nat.le_of_ble_eq_true rfl) ?_
  show Ev G 3 210 mJ7_copyOfRange_39247 0 [some (.ref y), some (.int (nI i)), some (.int (nI j))] [] (x, U) _
  refine ev_iload_n dJ7_copyOfRange_39247_0 rfl ?_
  by_cases h0 : i = 0
  · subst h0
    refine ev_if_ne_f (tgt := 10) dJ7_copyOfRange_39247_1 (by decide) rfl ?_
    refine ev_iload_n dJ7_copyOfRange_39247_4 rfl ?_
    refine ev_aload_n dJ7_copyOfRange_39247_5 rfl ?_
    refine ev_blen (w := (x, U)) hy dJ7_copyOfRange_39247_6 ?_
    by_cases h1 : j = m
    · subst h1
      refine ev_icmp_eq_t (tgt := 17) dJ7_copyOfRange_39247_7 (by decide) rfl ?_
      refine ev_aload_n dJ7_copyOfRange_39247_17 rfl ?_
      obtain ⟨v, rfl, hv⟩ := hD.resolve_right (by omega)
      refine ev_clone (w := (x, U)) (d := 3) rfl hv hf (by omega) rfl dJ7_copyOfRange_39247_18 dJ7_copyOfRange_39247_21 (fun z => ?_)
      exact ev_aretP dJ7_copyOfRange_39247_24 rfl (Or.inr ⟨_, rfl⟩) ⟨z, f, rfl, by rw [Nat.sub_zero], fun t _ => by rw [Nat.zero_add], by rw [Nat.sub_zero]; exact hf⟩
    · refine ev_icmp_eq_f (tgt := 17) dJ7_copyOfRange_39247_7 (by decide) (fun q => h1 ((nI_eq (by omega) (by omega)).mp q)) ?_
      refine ev_aload_n dJ7_copyOfRange_39247_10 rfl ?_
      refine ev_iload_n dJ7_copyOfRange_39247_11 rfl ?_
      refine ev_iload_n dJ7_copyOfRange_39247_12 rfl ?_
      refine ev_callSP (w := (x, U)) kJ7_339 (as := [.ref y, .int (nI 0), .int (nI j)]) (rest := []) (cJ7_copyRangeB hy hij hj hm hf) dJ7_copyOfRange_39247_13 rfl (by decide) (by decide) rfl (fun r0 w2 hp => ?_)
      obtain ⟨z, g, rfl, hp⟩ := hp
      exact ev_aretP dJ7_copyOfRange_39247_16 rfl (Or.inr ⟨_, rfl⟩) ⟨z, g, rfl, hp⟩
  · refine ev_if_ne_t (tgt := 10) dJ7_copyOfRange_39247_1 (by decide) (fun q => h0 ((nI_eq (b := 0) (by omega) (by decide)).mp q)) ?_
    refine ev_aload_n dJ7_copyOfRange_39247_10 rfl ?_
    refine ev_iload_n dJ7_copyOfRange_39247_11 rfl ?_
    refine ev_iload_n dJ7_copyOfRange_39247_12 rfl ?_
    refine ev_callSP (w := (x, U)) kJ7_339 (as := [.ref y, .int (nI i), .int (nI j)]) (rest := []) (cJ7_copyRangeB hy hij hj hm hf) dJ7_copyOfRange_39247_13 rfl (by decide) (by decide) rfl (fun r0 w2 hp => ?_)
    obtain ⟨z, g, rfl, hp⟩ := hp
    exact ev_aretP dJ7_copyOfRange_39247_16 rfl (Or.inr ⟨_, rfl⟩) ⟨z, g, rfl, hp⟩
set_option maxRecDepth 8000 in
theorem cJ5_init {G : GX} {x : Nat → Nat → Int32} {T : va_W} {a : Nat} : BigP G 1 20 mJ5_init_d00df [dy a, .int (nI 16)] (x, T ++ [(a, .inr (1, df_J4))]) (fun r0 w2 => r0 = none ∧ ∃ v, w2 = (x, T ++ [sbO a v 0, byA G v 16 (fun _ => 0)])) := by
  refine bp_of (by decide +kernel) rfl (Nat.le_of_ble_eq_true rfl) ?_
  show Ev G 1 20 mJ5_init_d00df 0 [some (dy a), some (.int (nI 16))] [] (x, T ++ [(a, .inr (1, df_J4))]) _
  refine ev_aload_n dJ5_init_d00df_0 rfl ?_
  refine ev_objI ob_J5 oi_2 oi_3 dJ5_init_d00df_1 rfl ?_
  refine ev_gcomp csJ5_18 dJ5_init_d00df_4 ?_
  refine ev_if_eq_f (tgt := 25) dJ5_init_d00df_7 (by decide) (by decide) ?_
  refine ev_aload_n dJ5_init_d00df_10 rfl ?_
  refine ev_iload_n dJ5_init_d00df_11 rfl ?_
  refine ev_newaT (at_ := .byte) (t := 2) (zz := .inl (fun _ => 0)) ac_b rfl rfl ra_b (fun _ => rfl) (by decide) (by decide) (by decide) dJ5_init_d00df_12 (fun v => ?_)
  refine ev_w (w' := (x, T ++ [(a, .inr (1, df_J4)), byA G v 16 (fun _ => 0)])) (by rw [ta1]; rfl) ?_
  refine ev_putT (u := .ref v) (T2 := T ++ [(a, .inr (1, [.ref v, .int 0, .int 0, .int 0])), byA G v 16 (fun _ => 0)]) fJ5_15 tl0 dJ5_init_d00df_14 (fun hG => cv_dy hG v) rfl rfl (Nat.le_of_ble_eq_true rfl) ts0 ?_
  refine ev_aload_n dJ5_init_d00df_17 rfl ?_
  refine ev_iconst dJ5_init_d00df_18 ic0 ?_
  refine ev_putT (u := .int (nI 0)) (T2 := T ++ [sbO a v 0, byA G v 16 (fun _ => 0)]) fJ5_22 tl0 dJ5_init_d00df_19 (fun _ => rfl) rfl rfl (Nat.le_of_ble_eq_true rfl) ts0 ?_
  refine ev_goto (tgt := 38) dJ5_init_d00df_22 (by decide) ?_
  exact ev_vretP dJ5_init_d00df_38 rfl ⟨rfl, v, rfl⟩
set_option maxRecDepth 8000 in
theorem cJ4_init {G : GX} {x : Nat → Nat → Int32} {T : va_W} {a : Nat} : BigP G 2 20 mJ4_init_da8c8 [dy a] (x, T ++ [(a, .inr (1, df_J4))]) (fun r0 w2 => r0 = none ∧ sbI G x T a [] w2) := by
  refine bp_of (by decide +kernel) rfl (Nat.le_of_ble_eq_true rfl) ?_
  show Ev G 2 20 mJ4_init_da8c8 0 [some (dy a)] [] (x, T ++ [(a, .inr (1, df_J4))]) _
  refine ev_aload_n dJ4_init_da8c8_0 rfl ?_
  refine ev_bipush (v := nI 16) dJ4_init_da8c8_1 (by decide) ?_
  refine ev_callIP iJ4_1 (as := [.int (nI 16)]) (rest := []) cJ5_init dJ4_init_da8c8_3 rfl (by decide) (by decide) rfl (fun r0 w2 hp => ?_)
  obtain ⟨rfl, v, rfl⟩ := hp
  exact ev_vretP dJ4_init_da8c8_6 rfl ⟨rfl, v, 16, _, rfl, by decide, by decide, ⟨fun c h => by simp at h, fun j h => by simp at h⟩, fb_0⟩
def stI (G : GX) (x : Nat → Nat → Int32) (T : va_W) (s : Nat) (L : List Nat) (w : WS) : Prop := ∃ z g, w = (x, T ++ [stO s z, byA G z L.length g]) ∧ tx_ g L
theorem stI_str {x : Nat → Nat → Int32} {T : va_W} {s : Nat} {L : List Nat} {w : WS} (h : stI G x T s L w) : str_ G w.2 (10000 + s) L := by
  obtain ⟨z, g, rfl, ht⟩ := h
  exact ⟨g, Or.inl ⟨s, z, 0, 0, rfl, List.mem_of_getElem? (i := T.length) tl0, List.mem_of_getElem? (i := T.length + 1) tl1⟩, ht⟩
set_option maxRecDepth 8000 in
theorem cJ0_initA {G : GX} {x : Nat → Nat → Int32} {T : va_W} {a v n m s : Nat} {f : Nat → Int32} (hn : n ≤ m) (hm : m ≤ 200) (hf : fb_ f m) : BigP G 4 210 mJ0_init_db425 [dy s, dy a, .null] (x, T ++ [sbO a v n, byA G v m f, (s, .inr (0, df_J0))]) (fun r0 w2 => r0 = none ∧ ∃ z g, w2 = (x, T ++ [sbO a v n, byA G v m f, stO s z, byA G z n g]) ∧ ∀ t, t < n → g t = f t) := by
  refine bp_of (by decide +kernel) rfl (Nat.le_of_ble_eq_true rfl) ?_
  show Ev G 4 210 mJ0_init_db425 0 [some (dy s), some (dy a), some (.null), none, none] [] (x, T ++ [sbO a v n, byA G v m f, (s, .inr (0, df_J0))]) _
  refine ev_aload_n dJ0_init_db425_0 rfl ?_
  refine ev_objI ob_J0 oi_2 oi_3 dJ0_init_db425_1 rfl ?_
  refine ev_aload_n dJ0_init_db425_4 rfl ?_
  refine ev_callUg (w := (x, T ++ [sbO a v n, byA G v m f, (s, .inr (0, df_J0))])) uJ0_552 (as := []) (rest := []) (rv_T (w := (x, T ++ [sbO a v n, byA G v m f, (s, .inr (0, df_J0))])) tl0 rfl rfl) cJ5_getValue dJ0_init_db425_5 rfl (by decide) (by decide) rfl ?_
  refine ev_ast3 dJ0_init_db425_8 (by decide) rfl ?_
  refine ev_aload_n dJ0_init_db425_9 rfl ?_
  refine ev_callHg (w := (x, T ++ [sbO a v n, byA G v m f, (s, .inr (0, df_J0))])) voJ0_549 (as := []) (rest := []) (rv_T (w := (x, T ++ [sbO a v n, byA G v m f, (s, .inr (0, df_J0))])) tl0 rfl rfl) cJ4_length dJ0_init_db425_10 rfl (by decide) (by decide) rfl ?_
  refine ev_ist4 dJ0_init_db425_13 (by decide) rfl ?_
  refine ev_aload_n dJ0_init_db425_15 rfl ?_
  refine ev_callUg (w := (x, T ++ [sbO a v n, byA G v m f, (s, .inr (0, df_J0))])) uJ0_1047 (as := []) (rest := []) (rv_T (w := (x, T ++ [sbO a v n, byA G v m f, (s, .inr (0, df_J0))])) tl0 rfl rfl) cJ5_isLatin1 dJ0_init_db425_16 rfl (by decide) (by decide) rfl ?_
  refine ev_if_eq_f (tgt := 41) dJ0_init_db425_19 (by decide) (by decide) ?_
  refine ev_aload_n dJ0_init_db425_22 rfl ?_
  refine ev_iconst dJ0_init_db425_23 ic0 ?_
  refine ev_putTF (u := .int (nI 0)) (T2 := T ++ [sbO a v n, byA G v m f, (s, .inr (0, df_J0))]) fJ0_15 rfl (fun C T N h => by cases h; rfl) tl2 dJ0_init_db425_24 (fun _ => rfl) rfl rfl (Nat.le_of_ble_eq_true rfl) ts2 ?_
  refine ev_aload_n dJ0_init_db425_27 rfl ?_
  refine ev_aload_n dJ0_init_db425_28 rfl ?_
  refine ev_iconst dJ0_init_db425_29 ic0 ?_
  refine ev_iload dJ0_init_db425_30 rfl ?_
  refine ev_callSP (w := (x, T ++ [sbO a v n, byA G v m f, (s, .inr (0, df_J0))])) kJ0_54 (as := [dy v, .int (nI 0), .int (nI n)]) (rest := [dy s]) (cJ7_copyRange (Or.inl ⟨v, rfl, List.mem_of_getElem? (i := T.length + 1) tl1⟩) (Nat.zero_le n) hn hm hf (Or.inl ⟨v, rfl, List.mem_of_getElem? (i := T.length + 1) tl1⟩)) dJ0_init_db425_32 rfl (by decide) (by decide) rfl (fun r0 w2 hp => ?_)
  obtain ⟨z, g, rfl, rfl, hg, -⟩ := hp
  refine ev_w (w' := (x, T ++ [sbO a v n, byA G v m f, (s, .inr (0, df_J0)), byA G z n g])) (by rw [ta3]; rfl) ?_
  refine ev_putTF (u := .ref z) (T2 := T ++ [sbO a v n, byA G v m f, stO s z, byA G z n g]) fJ0_9 rfl (fun C T N h => by cases h; rfl) tl2 dJ0_init_db425_35 (fun hG => cv_dy hG z) rfl rfl (Nat.le_of_ble_eq_true rfl) ts2 ?_
  refine ev_goto (tgt := 97) dJ0_init_db425_38 (by decide) ?_
  exact ev_vretP dJ0_init_db425_97 rfl ⟨rfl, z, g, rfl, fun t ht => by rw [hg t ht, Nat.zero_add]⟩
set_option maxRecDepth 8000 in
theorem cJ0_initB {G : GX} {x : Nat → Nat → Int32} {T : va_W} {a v n m s : Nat} {f : Nat → Int32} (hn : n ≤ m) (hm : m ≤ 200) (hf : fb_ f m) : BigP G 5 210 mJ0_init_81219 [dy s, dy a] (x, T ++ [sbO a v n, byA G v m f, (s, .inr (0, df_J0))]) (fun r0 w2 => r0 = none ∧ ∃ z g, w2 = (x, T ++ [sbO a v n, byA G v m f, stO s z, byA G z n g]) ∧ ∀ t, t < n → g t = f t) := by
  refine bp_of (by decide +kernel) rfl (Nat.le_of_ble_eq_true rfl) ?_
  show Ev G 5 210 mJ0_init_81219 0 [some (dy s), some (dy a)] [] (x, T ++ [sbO a v n, byA G v m f, (s, .inr (0, df_J0))]) _
  refine ev_aload_n dJ0_init_81219_0 rfl ?_
  refine ev_aload_n dJ0_init_81219_1 rfl ?_
  refine ev_null dJ0_init_81219_2 ?_
  refine ev_callIP (w := (x, T ++ [sbO a v n, byA G v m f, (s, .inr (0, df_J0))])) iJ0_489 (as := [dy a, .null]) (rest := []) (cJ0_initA hn hm hf) dJ0_init_81219_3 rfl (by decide) (by decide) rfl (fun r0 w2 hp => ?_)
  obtain ⟨rfl, hp⟩ := hp
  exact ev_vretP dJ0_init_81219_6 rfl ⟨rfl, hp⟩
set_option maxRecDepth 8000 in
theorem cJ4_toString {G : GX} {x : Nat → Nat → Int32} {T : va_W} {a : Nat} {L : List Nat} {w : WS} (hw : sbI G x T a L w)  : BigP G 6 220 mJ4_toString_0e30d [dy a] w (fun r0 w2 => ∃ s, r0 = some (dy s) ∧ stI G x T s L w2) := by
  obtain ⟨v, m, f, rfl, hm, hm2, hx, hf⟩ := hw
  refine bp_of (by decide +kernel) rfl (Nat.le_of_ble_eq_true rfl) ?_
  show Ev G 6 220 mJ4_toString_0e30d 0 [some (dy a)] [] _ _
  refine ev_newT mk_J4_18 (by decide) dJ4_toString_0e30d_0 (fun s => ?_)
  refine ev_w (w' := (x, T ++ [sbO a v L.length, byA G v m f, (s, .inr (0, df_J0))])) (by rw [ta2]) ?_
  refine ev_dup dJ4_toString_0e30d_3 rfl ?_
  refine ev_aload_n dJ4_toString_0e30d_4 rfl ?_
  refine ev_callIP (w := (x, T ++ [sbO a v L.length, byA G v m f, (s, .inr (0, df_J0))])) iJ4_137 (as := [dy a]) (rest := [dy s]) (cJ0_initB hm (by omega) hf) dJ4_toString_0e30d_5 rfl (by decide) (by decide) rfl (fun r0 w2 hp => ?_)
  obtain ⟨rfl, z, g, rfl, hg⟩ := hp
  refine ev_tl (T' := T ++ [stO s z, byA G z L.length g]) (List.Sublist.append (List.Sublist.refl T) (List.Sublist.cons _ (List.Sublist.cons _ (List.Sublist.refl _)))) ?_
  exact ev_aretP dJ4_toString_0e30d_8 rfl (Or.inl ⟨_, rfl⟩) ⟨s, rfl, z, g, rfl, tx_cg hx hg⟩
theorem nuL_lt {v : Nat} (h : v < 100) : ∀ c ∈ nuL v, c < 128 := by
  intro c hc
  unfold nuL at hc
  split at hc <;> simp at hc <;> omega
theorem sub_str {s z i : Nat} {L : List Nat} {f g : Nat → Int32} (hx : tx_ f L) (hi : i < L.length) (hg : ∀ t, t < L.length - i → g t = f (i + t))  {U : va_W} (h1 : stO s z ∈ U) (h2 : byA G z (L.length - i) g ∈ U) : str_ G U (10000 + s) (L.drop i) := by
  refine ⟨g, Or.inl ⟨s, z, 0, 0, rfl, h1, ?_⟩, fun c hc => hx.1 c (List.mem_of_mem_drop hc), fun j hj => ?_⟩
  · rw [List.length_drop]
    exact h2
  · rw [List.length_drop] at hj
    rw [hg j hj, hx.2 (i + j) (by omega), List.getD_eq_getElem?_getD, List.getD_eq_getElem?_getD, List.getElem?_drop]
theorem n100 : ∀ v : Fin 100, (0 - nI v.val ≤ -10 ↔ 10 ≤ v.val) ∧ ¬ (0 - nI v.val ≤ -100) ∧ (-100 < 0 - nI v.val) ∧ (-9 ≤ 0 - nI v.val ↔ v.val ≤ 9) ∧ (0 - (0 - nI v.val) = nI v.val) ∧ dgO v.val = nI (48 + v.val % 10) ∧ dgT v.val = nI (48 + v.val / 10) := by decide +kernel
set_option maxRecDepth 8000 in
theorem cJ6_size {G : GX} {w : WS} {v : Nat} (hv : v < 100) : Big G 1 0 mJ6_stringSize_0f7a4 [.int (nI v)] w (.inl (some (.int (nI (if v < 10 then 1 else 2))))) w := by
  refine big_of (by decide +kernel) (Nat.le_of_ble_eq_true rfl) ?_
  show Ev G 1 0 mJ6_stringSize_0f7a4 0 [some (.int (nI v)), none, none, none] [] _ _
  obtain ⟨q1, q2, -⟩ := n100 ⟨v, hv⟩
  refine ev_iconst dJ6_stringSize_0f7a4_0 ic1 ?_
  refine ev_ist1 dJ6_stringSize_0f7a4_1 (by decide) rfl ?_
  refine ev_iload_n dJ6_stringSize_0f7a4_2 rfl ?_
  refine ev_if_lt_f (tgt := 11) dJ6_stringSize_0f7a4_3 (by decide) (nI_pos (by omega)) ?_
  refine ev_iconst dJ6_stringSize_0f7a4_6 ic0 ?_
  refine ev_ist1 dJ6_stringSize_0f7a4_7 (by decide) rfl ?_
  refine ev_iload_n dJ6_stringSize_0f7a4_8 rfl ?_
  refine ev_ineg dJ6_stringSize_0f7a4_9 ?_
  refine ev_ist0 dJ6_stringSize_0f7a4_10 (by decide) ?_
  refine ev_bipush (v := (-10)) dJ6_stringSize_0f7a4_11 (by decide) ?_
  refine ev_ist2 dJ6_stringSize_0f7a4_13 (by decide) rfl ?_
  refine ev_iconst dJ6_stringSize_0f7a4_14 ic1 ?_
  refine ev_ist3 dJ6_stringSize_0f7a4_15 (by decide) rfl ?_
  refine ev_iload_n dJ6_stringSize_0f7a4_16 rfl ?_
  refine ev_bipush (v := nI 10) dJ6_stringSize_0f7a4_17 (by decide) ?_
  refine ev_icmp_ge_f (tgt := 42) dJ6_stringSize_0f7a4_19 (by decide) (by decide) ?_
  refine ev_iload_n dJ6_stringSize_0f7a4_22 rfl ?_
  refine ev_iload_n dJ6_stringSize_0f7a4_23 rfl ?_
  by_cases h : v < 10
  · rw [if_pos h]
    refine ev_icmp_le_f (tgt := 31) dJ6_stringSize_0f7a4_24 (by decide) (fun q => by have h9 : 10 ≤ v := q1.mp q; omega) ?_
    refine ev_iload_n dJ6_stringSize_0f7a4_27 rfl ?_
    refine ev_iload_n dJ6_stringSize_0f7a4_28 rfl ?_
    refine ev_iadd dJ6_stringSize_0f7a4_29 ?_
    refine ev_top (nI_add 1 0) ?_
    exact ev_iret dJ6_stringSize_0f7a4_30 rfl rfl rfl rfl
  · rw [if_neg h]
    refine ev_icmp_le_t (tgt := 31) dJ6_stringSize_0f7a4_24 (by decide) (q1.mpr (by show 10 ≤ v; omega)) ?_
    refine ev_bipush (v := nI 10) dJ6_stringSize_0f7a4_31 (by decide) ?_
    refine ev_iload_n dJ6_stringSize_0f7a4_33 rfl ?_
    refine ev_imul dJ6_stringSize_0f7a4_34 ?_
    refine ev_top (y := -100) (by decide) ?_
    refine ev_ist2 dJ6_stringSize_0f7a4_35 (by decide) rfl ?_
    refine ev_iinc3 dJ6_stringSize_0f7a4_36 (nI_inc _) (by decide) rfl ?_
    refine ev_goto (tgt := 16) dJ6_stringSize_0f7a4_39 (by decide) ?_
    refine ev_iload_n dJ6_stringSize_0f7a4_16 rfl ?_
    refine ev_bipush (v := nI 10) dJ6_stringSize_0f7a4_17 (by decide) ?_
    refine ev_icmp_ge_f (tgt := 42) dJ6_stringSize_0f7a4_19 (by decide) (by decide) ?_
    refine ev_iload_n dJ6_stringSize_0f7a4_22 rfl ?_
    refine ev_iload_n dJ6_stringSize_0f7a4_23 rfl ?_
    refine ev_icmp_le_f (tgt := 31) dJ6_stringSize_0f7a4_24 (by decide) q2 ?_
    refine ev_iload_n dJ6_stringSize_0f7a4_27 rfl ?_
    refine ev_iload_n dJ6_stringSize_0f7a4_28 rfl ?_
    refine ev_iadd dJ6_stringSize_0f7a4_29 ?_
    refine ev_top (nI_add 2 0) ?_
    exact ev_iret dJ6_stringSize_0f7a4_30 rfl rfl rfl rfl
set_option maxRecDepth 8000 in
theorem cJ6_getChars {G : GX} {x : Nat → Nat → Int32} {T : va_W} {p : Nat × va_E} {b n m v : Nat} {f : Nat → Int32} (hv : v < 100) (hn : n + (nuL v).length ≤ m) (hm : m ≤ 500) (hfb : fb_ f m) : BigP G 1 0 mJ6_getChars_ba4f3 [.int (nI v), .int (nI (n + (nuL v).length)), dy b] (x, T ++ [p, byA G b m f]) (fun r0 w2 => r0 = some (.int (nI n)) ∧ ∃ g, w2 = (x, T ++ [p, byA G b m g]) ∧ (∀ j, j < n → g j = f j) ∧ (∀ j, j < (nuL v).length → g (n + j) = nI ((nuL v).getD j 0)) ∧ fb_ g m) := by
  refine bp_of (by decide +kernel) rfl (Nat.le_of_ble_eq_true rfl) ?_
  show Ev G 1 0 mJ6_getChars_ba4f3 0 [some (.int (nI v)), some (.int (nI (n + (nuL v).length))), some (dy b), none, none, none, none] [] (x, T ++ [p, byA G b m f]) _
  obtain ⟨-, -, q3, q4, q5, q6, q7⟩ := n100 ⟨v, hv⟩
  have hL : (nuL v).length = if v < 10 then 1 else 2 := by unfold nuL; split <;> rfl
  refine ev_iload_n dJ6_getChars_ba4f3_0 rfl ?_
  refine ev_ist5 dJ6_getChars_ba4f3_1 (by decide) rfl ?_
  refine ev_iload_n dJ6_getChars_ba4f3_3 rfl ?_
  refine ev_if_ge_t (tgt := 11) dJ6_getChars_ba4f3_4 (by decide) (Int32.not_lt.mp (nI_pos (by omega))) ?_
  refine ev_iconst dJ6_getChars_ba4f3_11 ic0 ?_
  refine ev_ist6 dJ6_getChars_ba4f3_12 (by decide) rfl ?_
  refine ev_iload dJ6_getChars_ba4f3_14 rfl ?_
  refine ev_if_ne_f (tgt := 22) dJ6_getChars_ba4f3_16 (by decide) (by decide) ?_
  refine ev_iload_n dJ6_getChars_ba4f3_19 rfl ?_
  refine ev_ineg dJ6_getChars_ba4f3_20 ?_
  refine ev_ist0 dJ6_getChars_ba4f3_21 (by decide) ?_
  refine ev_iload_n dJ6_getChars_ba4f3_22 rfl ?_
  refine ev_bipush (v := (-100)) dJ6_getChars_ba4f3_23 (by decide) ?_
  refine ev_icmp_gt_t (tgt := 72) dJ6_getChars_ba4f3_25 (by decide) q3 ?_
  by_cases h : v < 10
  · rw [if_pos h] at hL
    have hL2 : nuL v = [48 + v] := by unfold nuL; rw [if_pos h]
    rw [hL] at hn ⊢
    refine ev_aload_n dJ6_getChars_ba4f3_72 rfl ?_
    refine ev_iinc5 dJ6_getChars_ba4f3_73 (nI_dec _) (by decide) rfl ?_
    refine ev_iload dJ6_getChars_ba4f3_76 rfl ?_
    refine ev_gdig (Or.inl ⟨rfl, rfl, rfl⟩) csJ6_83 dJ6_getChars_ba4f3_78 ?_
    refine ev_iload_n dJ6_getChars_ba4f3_81 rfl ?_
    refine ev_ineg dJ6_getChars_ba4f3_82 ?_
    refine ev_top q5 ?_
    refine ev_digl (Or.inl ⟨rfl, rfl, rfl⟩) dJ6_getChars_ba4f3_83 rfl hv ?_
    rw [q6]
    refine ev_bastoreT (T2 := T ++ [p, byA G b m (upd f n (nI (48 + v % 10)))]) tl1 dJ6_getChars_ba4f3_84 rfl (by_fit ⟨48 + v % 10, by omega⟩).2.1 (by omega) (by omega) ts1 ?_
    refine ev_iload_n dJ6_getChars_ba4f3_85 rfl ?_
    refine ev_bipush (v := (-9)) dJ6_getChars_ba4f3_86 (by decide) ?_
    refine ev_icmp_ge_t (tgt := 104) dJ6_getChars_ba4f3_88 (by decide) (q4.mpr (by show v ≤ 9; omega)) ?_
    refine ev_iload dJ6_getChars_ba4f3_104 rfl ?_
    refine ev_if_eq_t (tgt := 118) dJ6_getChars_ba4f3_106 (by decide) (by decide) ?_
    refine ev_iload dJ6_getChars_ba4f3_118 rfl ?_
    exact ev_iretP dJ6_getChars_ba4f3_120 rfl rfl ⟨rfl, _, rfl, fun j hj => upd_n (by omega), fun j hj => by rw [show j = 0 by omega, hL2, Nat.add_zero, upd_s]; show nI (48 + v % 10) = nI (48 + v); rw [Nat.mod_eq_of_lt h], fb_upd hfb (by_fit ⟨48 + v % 10, by omega⟩).1⟩
  · rw [if_neg h] at hL
    have hL2 : nuL v = [48 + v / 10, 48 + v % 10] := by unfold nuL; rw [if_neg h]
    rw [hL] at hn ⊢
    refine ev_aload_n dJ6_getChars_ba4f3_72 rfl ?_
    refine ev_iinc5 dJ6_getChars_ba4f3_73 (nI_dec _) (by decide) rfl ?_
    refine ev_iload dJ6_getChars_ba4f3_76 rfl ?_
    refine ev_gdig (Or.inl ⟨rfl, rfl, rfl⟩) csJ6_83 dJ6_getChars_ba4f3_78 ?_
    refine ev_iload_n dJ6_getChars_ba4f3_81 rfl ?_
    refine ev_ineg dJ6_getChars_ba4f3_82 ?_
    refine ev_top q5 ?_
    refine ev_digl (Or.inl ⟨rfl, rfl, rfl⟩) dJ6_getChars_ba4f3_83 rfl hv ?_
    rw [q6]
    refine ev_bastoreT (T2 := T ++ [p, byA G b m (upd f (n + 1) (nI (48 + v % 10)))]) tl1 dJ6_getChars_ba4f3_84 rfl (by_fit ⟨48 + v % 10, by omega⟩).2.1 (by omega) (by omega) ts1 ?_
    refine ev_iload_n dJ6_getChars_ba4f3_85 rfl ?_
    refine ev_bipush (v := (-9)) dJ6_getChars_ba4f3_86 (by decide) ?_
    refine ev_icmp_ge_f (tgt := 104) dJ6_getChars_ba4f3_88 (by decide) (fun q => by have := q4.mp q; have : v ≤ 9 := this; omega) ?_
    refine ev_aload_n dJ6_getChars_ba4f3_91 rfl ?_
    refine ev_iinc5 dJ6_getChars_ba4f3_92 (nI_dec _) (by decide) rfl ?_
    refine ev_iload dJ6_getChars_ba4f3_95 rfl ?_
    refine ev_gdig (Or.inr ⟨rfl, rfl, rfl⟩) csJ6_87 dJ6_getChars_ba4f3_97 ?_
    refine ev_iload_n dJ6_getChars_ba4f3_100 rfl ?_
    refine ev_ineg dJ6_getChars_ba4f3_101 ?_
    refine ev_top q5 ?_
    refine ev_digl (Or.inr ⟨rfl, rfl, rfl⟩) dJ6_getChars_ba4f3_102 rfl hv ?_
    rw [q7]
    refine ev_bastoreT (T2 := T ++ [p, byA G b m (upd (upd f (n + 1) (nI (48 + v % 10))) n (nI (48 + v / 10)))]) tl1 dJ6_getChars_ba4f3_103 rfl (by_fit ⟨48 + v / 10, by omega⟩).2.1 (by omega) (by omega) ts1 ?_
    refine ev_iload dJ6_getChars_ba4f3_104 rfl ?_
    refine ev_if_eq_t (tgt := 118) dJ6_getChars_ba4f3_106 (by decide) (by decide) ?_
    refine ev_iload dJ6_getChars_ba4f3_118 rfl ?_
    exact ev_iretP dJ6_getChars_ba4f3_120 rfl rfl ⟨rfl, _, rfl, fun j hj => by rw [upd_n (by omega), upd_n (by omega)], fun j hj => by
      rw [hL2]
      rcases (by omega : j = 0 ∨ j = 1) with rfl | rfl
      · exact upd_s
      · rw [upd_n (by omega), upd_s]; rfl, fb_upd (fb_upd hfb (by_fit ⟨48 + v % 10, by omega⟩).1) (by_fit ⟨48 + v / 10, by omega⟩).1⟩
set_option maxRecDepth 8000 in
theorem cJ5_appInt {G : GX} {x : Nat → Nat → Int32} {T : va_W} {a : Nat} {L : List Nat} {w : WS} (hw : sbI G x T a L w) {u : Nat} (hu : u < 100) (hl : L.length + 2 ≤ 60) : BigP G 4 510 mJ5_append_c97b9 [dy a, .int (nI u)] w (fun r0 w2 => r0 = some (dy a) ∧ sbI G x T a (L ++ nuL u) w2) := by
  obtain ⟨v, m, f, rfl, hm, hm2, hx, hfit⟩ := hw
  have hL : (nuL u).length = if u < 10 then 1 else 2 := by unfold nuL; split <;> rfl
  have hL2 : (nuL u).length ≤ 2 := (nuL_le u).1
  refine bp_of (by decide +kernel) rfl (Nat.le_of_ble_eq_true rfl) ?_
  show Ev G 4 510 mJ5_append_c97b9 0 [some (dy a), some (.int (nI u)), none, none] [] _ _
  refine ev_aload_n dJ5_append_c97b9_0 rfl ?_
  refine ev_getTI fJ5_79 tl0 dJ5_append_c97b9_1 rfl ?_
  refine ev_ist2 dJ5_append_c97b9_4 (by decide) rfl ?_
  refine ev_iload_n dJ5_append_c97b9_5 rfl ?_
  refine ev_iload_n dJ5_append_c97b9_6 rfl ?_
  refine ev_callS (w := (x, T ++ [sbO a v L.length, byA G v m f])) kJ5_245 (as := [.int (nI u)]) (rest := [.int (nI L.length)]) (cJ6_size hu) dJ5_append_c97b9_7 rfl (by decide) (by decide) rfl ?_
  rw [← hL]
  refine ev_iadd dJ5_append_c97b9_10 ?_
  refine ev_top (nI_add _ _) ?_
  refine ev_ist3 dJ5_append_c97b9_11 (by decide) rfl ?_
  refine ev_aload_n dJ5_append_c97b9_12 rfl ?_
  refine ev_iload_n dJ5_append_c97b9_13 rfl ?_
  refine ev_callUP uJ5_100 (as := [.int (nI (L.length + (nuL u).length))]) (rest := []) (rv_T (w := (x, T ++ [sbO a v L.length, byA G v m f])) tl0 rfl rfl) (cJ5_ensure hm2 (by omega) hfit) dJ5_append_c97b9_14 rfl (by decide) (by decide) rfl (fun r0 w2 hp => ?_)
  obtain ⟨rfl, v2, m2, f2, rfl, hm3, hm4, hf2, hb2⟩ := hp
  refine ev_aload_n dJ5_append_c97b9_17 rfl ?_
  refine ev_callUg (w := (x, T ++ [sbO a v2 L.length, byA G v2 m2 f2])) uJ5_83 (as := []) (rest := []) (rv_T (w := (x, T ++ [sbO a v2 L.length, byA G v2 m2 f2])) tl0 rfl rfl) cJ5_isLatin1 dJ5_append_c97b9_18 rfl (by decide) (by decide) rfl ?_
  refine ev_if_eq_f (tgt := 37) dJ5_append_c97b9_21 (by decide) (by decide) ?_
  refine ev_iload_n dJ5_append_c97b9_24 rfl ?_
  refine ev_iload_n dJ5_append_c97b9_25 rfl ?_
  refine ev_aload_n dJ5_append_c97b9_26 rfl ?_
  refine ev_getTR fJ5_15 tl0 dJ5_append_c97b9_27 rfl ?_
  refine ev_callSP (w := (x, T ++ [sbO a v2 L.length, byA G v2 m2 f2])) kJ5_248 (as := [.int (nI u), .int (nI (L.length + (nuL u).length)), dy v2]) (rest := []) (cJ6_getChars hu hm3 (by omega) hb2) dJ5_append_c97b9_30 rfl (by decide) (by decide) rfl (fun r0 w2 hp => ?_)
  obtain ⟨rfl, g, rfl, hg1, hg2, hg3⟩ := hp
  refine ev_pop dJ5_append_c97b9_33 rfl ?_
  refine ev_goto (tgt := 48) dJ5_append_c97b9_34 (by decide) ?_
  refine ev_aload_n dJ5_append_c97b9_48 rfl ?_
  refine ev_iload_n dJ5_append_c97b9_49 rfl ?_
  refine ev_putT (u := .int (nI (L.length + (nuL u).length))) (T2 := T ++ [sbO a v2 (L.length + (nuL u).length), byA G v2 m2 g]) fJ5_79 tl0 dJ5_append_c97b9_50 (fun _ => rfl) rfl rfl (Nat.le_of_ble_eq_true rfl) ts0 ?_
  refine ev_aload_n dJ5_append_c97b9_53 rfl ?_
  exact ev_aretP dJ5_append_c97b9_54 rfl (Or.inl ⟨_, rfl⟩) ⟨rfl, v2, m2, g, by rw [List.length_append], by rw [List.length_append]; exact hm3, hm4, tx_app (g := fun j => nI ((nuL u).getD j 0)) hx ⟨nuL_lt hu, fun j _ => rfl⟩ (fun j hj => (hg1 j hj).trans (hf2 j (by omega))) (fun j hj => hg2 j hj), hg3⟩
set_option maxRecDepth 8000 in
theorem cJ4_appInt {G : GX} {x : Nat → Nat → Int32} {T : va_W} {a : Nat} {L : List Nat} {w : WS} (hw : sbI G x T a L w) {u : Nat} (hu : u < 100) (hl : L.length + 2 ≤ 60) : BigP G 5 510 mJ4_append_bf812 [dy a, .int (nI u)] w (fun r0 w2 => r0 = some (dy a) ∧ sbI G x T a (L ++ nuL u) w2) := by
  refine bp_of (by decide +kernel) rfl (Nat.le_of_ble_eq_true rfl) ?_
  show Ev G 5 510 mJ4_append_bf812 0 [some (dy a), some (.int (nI u))] [] _ _
  refine ev_aload_n dJ4_append_bf812_0 rfl ?_
  refine ev_iload_n dJ4_append_bf812_1 rfl ?_
  refine ev_callOP oJ4_53 (as := [.int (nI u)]) (rest := []) (sb_rv hw) (cJ5_appInt hw hu hl) dJ4_append_bf812_2 rfl (by decide) (by decide) rfl (fun r0 w2 hp => ?_)
  obtain ⟨rfl, hp⟩ := hp
  refine ev_pop dJ4_append_bf812_5 rfl ?_
  refine ev_aload_n dJ4_append_bf812_6 rfl ?_
  exact ev_aretP dJ4_append_bf812_7 rfl (Or.inl ⟨_, rfl⟩) ⟨rfl, hp⟩
set_option maxRecDepth 8000 in
theorem cJ0_initC {G : GX} {x : Nat → Nat → Int32} {T : va_W} {s z n : Nat} {g : Nat → Int32} : BigP G 1 0 mJ0_init_031fb [dy s, dy z, .int (nI 0)] (x, T ++ [(s, .inr (0, df_J0)), byA G z n g]) (fun r0 w2 => r0 = none ∧ w2 = (x, T ++ [stO s z, byA G z n g])) := by
  refine bp_of (by decide +kernel) rfl (Nat.le_of_ble_eq_true rfl) ?_
  show Ev G 1 0 mJ0_init_031fb 0 [some (dy s), some (dy z), some (.int (nI 0))] [] (x, T ++ [(s, .inr (0, df_J0)), byA G z n g]) _
  refine ev_aload_n dJ0_init_031fb_0 rfl ?_
  refine ev_objI ob_J0 oi_2 oi_3 dJ0_init_031fb_1 rfl ?_
  refine ev_aload_n dJ0_init_031fb_4 rfl ?_
  refine ev_aload_n dJ0_init_031fb_5 rfl ?_
  refine ev_putTF (u := .ref z) (T2 := T ++ [stO s z, byA G z n g]) fJ0_9 rfl (fun C T N h => by cases h; rfl) tl0 dJ0_init_031fb_6 (fun hG => cv_dy hG z) rfl rfl (Nat.le_of_ble_eq_true rfl) ts0 ?_
  refine ev_aload_n dJ0_init_031fb_9 rfl ?_
  refine ev_iload_n dJ0_init_031fb_10 rfl ?_
  refine ev_putTF (u := .int (nI 0)) (T2 := T ++ [stO s z, byA G z n g]) fJ0_15 rfl (fun C T N h => by cases h; rfl) tl0 dJ0_init_031fb_11 (fun _ => rfl) rfl rfl (Nat.le_of_ble_eq_true rfl) ts0 ?_
  exact ev_vretP dJ0_init_031fb_14 rfl ⟨rfl, rfl⟩
theorem ev_bu {G : GX} {d b : Nat} {M : MT} {pc : Nat} {ls : List (Option Value)} {w : WS} {Z : ZT} {st : List Value} (b2 : Nat) (h : b2 ≤ b) (K : Ev G d b2 M pc ls st w Z) : Ev G d b M pc ls st w Z := by
  intro p e R s m args below meth c H locs cells slots lsA C r hP hD hS hL
  exact K p e R s m args below meth c H locs cells slots lsA C ⟨r.1, r.2.1, by have := r.2.2.1; omega, by have := r.2.2.2; omega⟩ hP hD hS hL
set_option maxRecDepth 8000 in
theorem cJ1_newS19 {G : GX} {x : Nat → Nat → Int32} {T : va_W} {y i k s z : Nat} {f g : Nat → Int32} (hg : ∀ t, t < i + k - i → g t = f (i + t)) : Ev G 4 6 mJ1_newString_b4f7a 19 [some (.ref y), some (.int (nI i)), some (.int (nI k))] [dy z, dy s, dy s] (x, T ++ [(s, .inr (0, df_J0)), byA G z k g]) (zP_ G (fun r0 w2 => ∃ s z g, r0 = some (dy s) ∧ w2 = (x, T ++ [stO s z, byA G z k g]) ∧ ∀ t, t < k → g t = f (i + t))) := by
  refine ev_iconst dJ1_newString_b4f7a_19 ic0 ?_
  refine ev_callIP (w := (x, T ++ [(s, .inr (0, df_J0)), byA G z k g])) iJ1_112 (as := [dy z, .int (nI 0)]) (rest := [dy s]) cJ0_initC dJ1_newString_b4f7a_20 rfl (by decide) (by decide) rfl (fun r0 w2 hp => ?_)
  obtain ⟨rfl, rfl⟩ := hp
  exact ev_aretP dJ1_newString_b4f7a_23 rfl (Or.inl ⟨_, rfl⟩) ⟨s, z, g, rfl, rfl, fun t ht => hg t (by omega)⟩
end
