/-! lines, texts, memory: the calls of the class -/
/-- what a query of the map comes to, the memory as it was -/
theorem pF_q {A : AS} {w w2 : WS} {es : List String} {r : Nat × Int32} {o : OT} (h : aX A w) (ho : o = cOut es r) (hf : frG [(113, 114)] w w2) : pF es (r, A) w o w2 := ⟨ho, aXG h hf (by decide), frG_mo hf (by decide)⟩
theorem fx_of {G : GX} {d : Nat} {M : MT} {args : List Value} {A : AS} {w : WS} {es : List String} {r : Nat × Int32} (h : aX A w) (hB : Big G d 1 M args w (cOut es r) w) : ∃ o w2, pF es (r, A) w o w2 ∧ Big G d 1 M args w o w2 := ⟨_, w, pF_q h rfl frG_rf, hB⟩
theorem fx_pq {G : GX} {d : Nat} {M : MT} {args : List Value} {A : AS} {w : WS} {es : List String} {r : Nat × Int32} (h : aX A w) (hB : ∃ o w2, pQ es r w o w2 ∧ Big G d 1 M args w o w2) : ∃ o w2, pF es (r, A) w o w2 ∧ Big G d 1 M args w o w2 := by
  obtain ⟨o, w2, ⟨h1, h2⟩, h3⟩ := hB
  exact ⟨o, w2, pF_q h h1 h2, h3⟩
theorem lnA_0 {w : WS} : lnA [] (cs_ w 107 (upd (w.1 107) 1 (nI 0))) := ⟨rfl, by decide, fun i v h => by simp at h⟩
theorem lnA_s {l : List Nat} {w : WS} (h : lnA l w) (hl : l.length < 40) {v : Nat} (hv : v < 128) : lnA (l ++ [v]) (wPut w 107 l.length (nI v)) := by
  obtain ⟨h1, h2, h3⟩ := h
  refine ⟨by simp [wPut, cs_, upd], by simp; omega, fun i z hz => ?_⟩
  show upd (w.1 108) l.length (nI v) i = nI z ∧ z < 128
  unfold upd
  by_cases e : i = l.length
  · subst e
    simp at hz
    subst hz
    exact ⟨if_pos rfl, hv⟩
  · rw [if_neg e]
    apply h3
    rw [List.getElem?_append] at hz
    split at hz
    · exact hz
    · rw [List.getElem?_singleton] at hz
      split at hz
      · omega
      · cases hz
theorem fr_wPut {w : WS} {n : Nat} {x : Int32} : frG [(107, 108)] w (wPut w 107 n x) := frG_cs (frG_cs frG_rf (by decide) _) (by decide) _
def nuL (v : Nat) : List Nat := if v < 10 then [48 + v] else [48 + v / 10, 48 + v % 10]
theorem nuL_le (v : Nat) : (nuL v).length ≤ 2 ∧ 1 ≤ (nuL v).length := by
  unfold nuL
  split <;> simp
theorem lnA_n {l : List Nat} {w : WS} (h : lnA l w) (hl : l.length + 2 ≤ 40) {v : Nat} (hv : v < 100) : lnA (l ++ nuL v) (wNum w l.length v) := by
  unfold nuL wNum
  by_cases e : v < 10
  · rw [if_pos e, if_pos e]; exact lnA_s h (by omega) (by omega)
  · rw [if_neg e, if_neg e]
    have h1 := lnA_s h (by omega) (v := 48 + v / 10) (by omega)
    have h2 := lnA_s h1 (by rw [List.length_append]; show l.length + 1 < 40; omega) (v := 48 + v % 10) (by omega)
    rw [List.append_assoc, List.length_append] at h2
    exact h2
theorem fr_wNum {w : WS} {n v : Nat} : frG [(107, 108)] w (wNum w n v) := by
  unfold wNum
  split
  · exact fr_wPut
  · exact frG_tr fr_wPut fr_wPut
/-- a new line -/
theorem aX_l {A : AS} {w w2 : WS} (h : aX A w) {l : List Nat} (hl : lnA l w2) (hf : frG [(107, 108)] w w2) : aX (mkA (aS A) (aV A) (aH A) (aN A) (aT A) l (aK A) (aE A)) w2 := by
  obtain ⟨h1, h2, h3, h4, h5, h6, h7, h8⟩ := h
  exact ⟨cmG h1 hf (by decide), svG h2 hf (by decide) (by decide), hG h3 hf (by decide), inG h4 hf (by decide), hl, kG h6 hf (by decide), by rw [frG_at hf (by decide)]; exact h7, h8⟩
def rowL (S : ST) (y n : Nat) : List Nat := (List.range n).map (fun x => sgC S (8 * y + x))
theorem rowL_s (S : ST) (y n : Nat) : rowL S y (n + 1) = rowL S y n ++ [sgC S (8 * y + n)] := by
  unfold rowL
  rw [List.range_succ, List.map_append]
  rfl
theorem rowL_n (S : ST) (y n : Nat) : (rowL S y n).length = n := by unfold rowL; simp
theorem sgC_lt {S : ST} (hk : okS S) {c : Nat} (hc : c < 64) : sgC S c < 128 := by
  unfold sgC
  split
  · decide
  · rename_i e
    obtain ⟨a, ha, -, hon⟩ := ow_ hk hc e
    rw [hon]
    split <;> omega
def spRow (A : AS) (x : Int32) : (Nat × Int32) × AS := match ixN 8 x with
  | none => ((1, 0), A)
  | some y => ((0, nI 8), mkA (aS A) (aV A) (aH A) (aN A) (aT A) (rowL (aS A) y 8) (aK A) (aE A))
set_option maxRecDepth 4000 in
theorem fX11_row_n {G : GX} {w : WS} {A : AS} (h : aX A w) {x : Int32} (hx : out_ 8 x) : ∃ o w2, (pF ["java/lang/IndexOutOfBoundsException"] (((1, 0), A)) w o w2) ∧ Big G 8 1 mX11_row [.ref 0, .int x] w o w2 := by
  refine bx_of (P := pF ["java/lang/IndexOutOfBoundsException"] (((1, 0), A)) w) (by decide +kernel) (Nat.le_of_ble_eq_true rfl) ?_
  show Ex G 8 1 mX11_row 0 [some (.ref 0), some (.int x), none] [] w _
  refine ex_s (fun _ => ev_iload_n dX11_row_0 rfl) ?_
  refine ex_bp (fun _ => ev_if_lt (tgt := 10) dX11_row_1 (by decide)) (fun hc1 => ?_) (fun hc1 => ?_)
  · exact ⟨_, _, (by exact ⟨rfl, h, frG_rf⟩), ev_throwW tX11_267_269_271 dX11_row_10 dX11_row_13 dX11_row_14 dX11_row_17 dX11_row_20 (by decide) rfl rfl⟩
  · refine ex_s (fun _ => ev_iload_n dX11_row_4 rfl) ?_
    refine ex_s (fun _ => ev_bipush (v := nI 8) dX11_row_5 (by decide)) ?_
    refine ex_s (fun _ => ev_icmp_lt_f (tgt := 21) dX11_row_7 (by decide) (Int32.not_lt.mpr (hx.resolve_left hc1))) ?_
    exact ⟨_, _, (by exact ⟨rfl, h, frG_rf⟩), ev_throwW tX11_267_269_271 dX11_row_10 dX11_row_13 dX11_row_14 dX11_row_17 dX11_row_20 (by decide) rfl rfl⟩
set_option maxRecDepth 4000 in
theorem fX11_row_y {G : GX} {w : WS} {A : AS} (h : aX A w) {y : Nat} (hy : y < 8) : ∃ o w2, (pF ["java/lang/IndexOutOfBoundsException"] (((0, nI 8), mkA (aS A) (aV A) (aH A) (aN A) (aT A) (rowL (aS A) y 8) (aK A) (aE A))) w o w2) ∧ Big G 8 1 mX11_row [.ref 0, .int (nI y)] w o w2 := by
  refine bx_of (P := pF ["java/lang/IndexOutOfBoundsException"] (((0, nI 8), mkA (aS A) (aV A) (aH A) (aN A) (aT A) (rowL (aS A) y 8) (aK A) (aE A))) w) (by decide +kernel) (Nat.le_of_ble_eq_true rfl) ?_
  show Ex G 8 1 mX11_row 0 [some (.ref 0), some (.int (nI y)), none] [] w _
  refine ex_s (fun _ => ev_iload_n dX11_row_0 rfl) ?_
  refine ex_s (fun _ => ev_if_lt_f (tgt := 10) dX11_row_1 (by decide) (nI_pos (by omega))) ?_
  refine ex_s (fun _ => ev_iload_n dX11_row_4 rfl) ?_
  refine ex_s (fun _ => ev_bipush (v := nI 8) dX11_row_5 (by decide)) ?_
  refine ex_s (fun _ => ev_icmp_lt_t (tgt := 21) dX11_row_7 (by decide) ((pk_lt' (by omega) (by decide)).mpr hy)) ?_
  refine ex_s (fun _ => ev_aload_n dX11_row_21 rfl) ?_
  refine ex_s (fun _ => ev_getR fX11_53 dX11_row_22 (by decide) sh0 rfl) ?_
  refine ex_s (fun _ => ev_callV kX11_109 co107 qX9_clear_107 dX11_row_25 rfl (by decide) (by decide) rfl) ?_
  refine ex_s (fun _ => ev_iload_n dX11_row_28 rfl) ?_
  refine ex_s (fun _ => ev_bipush (v := nI 8) dX11_row_29 (by decide)) ?_
  refine ex_s (fun _ => ev_imul dX11_row_31) ?_
  rw [pk_mul, Nat.mul_comm y 8]
  refine ex_s (fun _ => ev_ist2 dX11_row_32 (by decide) rfl) ?_
  have lp : ∀ (n9 j : Nat) (x : WS), j + n9 = 8 → lnA (rowL (aS A) y j) x → frG [(107, 108)] w x → Ex G 8 1 mX11_row 33 [some (.ref 0), some (.int (nI y)), some (.int (nI (8 * y + j)))] [] x (pF ["java/lang/IndexOutOfBoundsException"] ((0, nI 8), mkA (aS A) (aV A) (aH A) (aN A) (aT A) (rowL (aS A) y 8) (aK A) (aE A)) w) := by
    intro n9
    induction n9 with
    | zero =>
      intro j x hi9 hl hf
      refine ex_s (fun _ => ev_iload_n dX11_row_33 rfl) ?_
      refine ex_s (fun _ => ev_iload_n dX11_row_34 rfl) ?_
      refine ex_s (fun _ => ev_bipush (v := nI 8) dX11_row_35 (by decide)) ?_
      refine ex_s (fun _ => ev_imul dX11_row_37) ?_
      rw [pk_mul, Nat.mul_comm y 8]
      refine ex_s (fun _ => ev_bipush (v := nI 8) dX11_row_38 (by decide)) ?_
      refine ex_s (fun _ => ev_iadd dX11_row_40) ?_
      rw [nI_add]
      refine ex_s (fun _ => ev_icmp_ge_t (tgt := 62) dX11_row_41 (by decide) (nI_le (by omega) (by omega))) ?_
      obtain rfl : j = 8 := by omega
      refine ex_s (fun _ => ev_aload_n dX11_row_62 rfl) ?_
      refine ex_s (fun _ => ev_getR fX11_53 dX11_row_63 (by decide) sh0 rfl) ?_
      refine ex_s (fun _ => ev_getI fX11_280 dX11_row_66 (by decide) sh107 rfl) ?_
      refine ex_s (fun _ => ev_top (hl.1.trans (by rw [rowL_n]))) ?_
      exact ⟨_, _, (by exact ⟨rfl, aX_l h hl hf, frG_mo hf (by decide)⟩), ev_iret dX11_row_69 rfl rfl rfl rfl⟩
    | succ n9 ih =>
      intro j x hi9 hl hf
      refine ex_s (fun _ => ev_iload_n dX11_row_33 rfl) ?_
      refine ex_s (fun _ => ev_iload_n dX11_row_34 rfl) ?_
      refine ex_s (fun _ => ev_bipush (v := nI 8) dX11_row_35 (by decide)) ?_
      refine ex_s (fun _ => ev_imul dX11_row_37) ?_
      rw [pk_mul, Nat.mul_comm y 8]
      refine ex_s (fun _ => ev_bipush (v := nI 8) dX11_row_38 (by decide)) ?_
      refine ex_s (fun _ => ev_iadd dX11_row_40) ?_
      rw [nI_add]
      refine ex_s (fun _ => ev_icmp_ge_f (tgt := 62) dX11_row_41 (by decide) (nI_ge (by omega) (by omega))) ?_
      refine ex_s (fun _ => ev_aload_n dX11_row_44 rfl) ?_
      refine ex_s (fun _ => ev_getR fX11_53 dX11_row_45 (by decide) sh0 rfl) ?_
      refine ex_s (fun _ => ev_aload_n dX11_row_48 rfl) ?_
      refine ex_s (fun _ => ev_iload_n dX11_row_49 rfl) ?_
      refine ex_s (fun _ => ev_callV kX11_272 co0 (qX11_signOfCell (cmG h.1 hf (by decide)) (by omega)) dX11_row_50 rfl (by decide) (by decide) rfl) ?_
      have hsg := sgC_lt h.1.2 (c := 8 * y + j) (by omega)
      refine ex_s (fun _ => ev_callV kX11_276 co107 (qX9_put_107 (n := j) (hl.1.trans (by rw [rowL_n])) (by omega) (pC_nar (by omega))) dX11_row_53 rfl (by decide) (by decide) rfl) ?_
      refine ex_s (fun _ => ev_iinc2 dX11_row_56 (nI_inc _) (by decide) rfl) ?_
      refine ex_s (fun _ => ev_goto (tgt := 33) dX11_row_59 (by decide)) ?_
      have q := lnA_s hl (by rw [rowL_n]; omega) hsg
      rw [rowL_n, ← rowL_s] at q
      exact ih (j + 1) _ (by omega) q (frG_tr hf fr_wPut)
  exact lp 8 0 _ rfl lnA_0 (frG_cs frG_rf (by decide) _)
theorem fX11_row {G : GX} {w : WS} {A : AS} (h : aX A w) (x : Int32) : ∃ o w2, pF ["java/lang/IndexOutOfBoundsException"] (spRow A x) w o w2 ∧ Big G 8 1 mX11_row [.ref 0, .int x] w o w2 := by
  unfold spRow
  rcases ixN_or 8 (by decide) x with ⟨h1, e1⟩ | ⟨i, h1, rfl, e1⟩
  · rw [e1]; exact fX11_row_n h h1
  · rw [e1]; exact fX11_row_y h h1
def stF (S : ST) (i k : Nat) : Nat := ((List.range 4).find? (fun d => nb (rP S i k) d == some (rP S i (k + 1)))).getD 0
theorem stF_ok {S : ST} (hk : okS S) {i k : Nat} (hi : i < nR S) (hq : k < rN S i) : stF S i k < 4 ∧ nb (rP S i k) (stF S i k) = some (rP S i (k + 1)) := by
  obtain ⟨d, hd, h⟩ := (hk.2.1.2 i hi).2.2.2.2 k hq
  unfold stF
  cases e : (List.range 4).find? (fun d => nb (rP S i k) d == some (rP S i (k + 1))) with
  | none =>
    have := List.find?_eq_none.mp e d (List.mem_range.mpr hd)
    exact absurd (beq_iff_eq.mpr h) this
  | some d2 => exact ⟨List.mem_range.mp (List.mem_of_find?_eq_some e), (by simpa using List.find?_some e)⟩
/-- a river told, its first k steps -/
def telP (S : ST) (i k : Nat) : List Nat := nuL (rP S i 0) ++ [58] ++ (List.range k).map (fun q => sgS (stF S i q))
def telL (S : ST) (i : Nat) : List Nat := telP S i (rN S i) ++ [61] ++ nuL (rT S i) ++ (if wr S (oN_ (sM S 0)) i = 0 then [] else [63])
theorem telP_s (S : ST) (i k : Nat) : telP S i (k + 1) = telP S i k ++ [sgS (stF S i k)] := by
  unfold telP
  rw [List.range_succ, List.map_append, ← List.append_assoc]
  rfl
theorem telP_le (S : ST) (i k : Nat) : (telP S i k).length ≤ 3 + k := by
  have := nuL_le (rP S i 0)
  unfold telP
  simp
  omega
def spTell (A : AS) (x : Int32) : (Nat × Int32) × AS := match ixN (nR (aS A)) x with
  | none => ((1, 0), A)
  | some i => ((0, nI (telL (aS A) i).length), mkA (aS A) (aV A) (aH A) (aN A) (aT A) (telL (aS A) i) (aK A) (aE A))
set_option maxRecDepth 4000 in
theorem fX11_tell_n {G : GX} {w : WS} {A : AS} (h : aX A w) {x : Int32} (hx : out_ (nR (aS A)) x) : ∃ o w2, (pF ["java/lang/IndexOutOfBoundsException"] (((1, 0), A)) w o w2) ∧ Big G 8 1 mX11_tell [.ref 0, .int x] w o w2 := by
  refine bx_of (P := pF ["java/lang/IndexOutOfBoundsException"] (((1, 0), A)) w) (by decide +kernel) (Nat.le_of_ble_eq_true rfl) ?_
  show Ex G 8 1 mX11_tell 0 [some (.ref 0), some (.int x), none] [] w _
  refine ex_s (fun _ => ev_aload_n dX11_tell_0 rfl) ?_
  refine ex_s (fun _ => ev_iload_n dX11_tell_1 rfl) ?_
  exact ⟨_, _, (by exact ⟨rfl, h, frG_rf⟩), ev_callVx kX11_119 co0 (qX11_needRiver_n h.1 hx) dX11_tell_2 rfl (by decide) (by decide) rfl rfl⟩
theorem wr_le {S : ST} (hk : okS S) {m i : Nat} (hi : i < nR S) (hm : m ≤ 9) : wr S m i ≤ 207 := by
  have h1 := hk.2.1.2 i hi
  have : rN S i * m ≤ 12 * 9 := Nat.mul_le_mul h1.2.2.1 hm
  unfold wr
  omega
set_option maxRecDepth 4000 in
theorem fX11_tell_y {G : GX} {w : WS} {A : AS} (h : aX A w) {i : Nat} (hi : i < nR (aS A)) : ∃ o w2, (pF ["java/lang/IndexOutOfBoundsException"] (((0, nI (telL (aS A) i).length), mkA (aS A) (aV A) (aH A) (aN A) (aT A) (telL (aS A) i) (aK A) (aE A))) w o w2) ∧ Big G 8 1 mX11_tell [.ref 0, .int (nI i)] w o w2 := by
  obtain ⟨mm, hm1, hm9, hm0⟩ := h.1.2.2.2.2
  obtain ⟨hr99, hr1, hr12, hk1, -⟩ := h.1.2.2.1.2 i hi
  have h5 := h.1.2.2.1.1
  have hte : wr (aS A) mm i = 0 → telL (aS A) i = telP (aS A) i (rN (aS A) i) ++ [61] ++ nuL (rT (aS A) i) := fun e => by
    unfold telL
    rw [hm0, oN_nI (by omega), if_pos e, List.append_nil]
  have htn : ¬ wr (aS A) mm i = 0 → telL (aS A) i = telP (aS A) i (rN (aS A) i) ++ [61] ++ nuL (rT (aS A) i) ++ [63] := fun e => by
    unfold telL
    rw [hm0, oN_nI (by omega), if_neg e]
  refine bx_of (P := pF ["java/lang/IndexOutOfBoundsException"] (((0, nI (telL (aS A) i).length), mkA (aS A) (aV A) (aH A) (aN A) (aT A) (telL (aS A) i) (aK A) (aE A))) w) (by decide +kernel) (Nat.le_of_ble_eq_true rfl) ?_
  show Ex G 8 1 mX11_tell 0 [some (.ref 0), some (.int (nI i)), none] [] w _
  refine ex_s (fun _ => ev_aload_n dX11_tell_0 rfl) ?_
  refine ex_s (fun _ => ev_iload_n dX11_tell_1 rfl) ?_
  refine ex_s (fun _ => ev_callV kX11_119 co0 (qX11_needRiver_y h.1 hi) dX11_tell_2 rfl (by decide) (by decide) rfl) ?_
  refine ex_s (fun _ => ev_aload_n dX11_tell_5 rfl) ?_
  refine ex_s (fun _ => ev_getR fX11_53 dX11_tell_6 (by decide) sh0 rfl) ?_
  refine ex_s (fun _ => ev_callV kX11_109 co107 qX9_clear_107 dX11_tell_9 rfl (by decide) (by decide) rfl) ?_
  refine ex_s (fun _ => ev_aload_n dX11_tell_12 rfl) ?_
  refine ex_s (fun _ => ev_getR fX11_53 dX11_tell_13 (by decide) sh0 rfl) ?_
  refine ex_s (fun _ => ev_aload_n dX11_tell_16 rfl) ?_
  refine ex_s (fun _ => ev_getR fX11_10 dX11_tell_17 (by decide) sh0 rfl) ?_
  refine ex_s (fun _ => ev_iload_n dX11_tell_20 rfl) ?_
  refine ex_s (fun _ => ev_iconst dX11_tell_21 ic0) ?_
  have hf0 : frG [(107, 108)] w (cs_ w 107 (upd (w.1 107) 1 (nI 0))) := frG_cs frG_rf (by decide) _
  have hSa := cmG h.1 hf0 (by decide)
  refine ex_s (fun _ => ev_callV kX11_161 co1 (qX1_placeOf hSa hi (Nat.zero_le _)) dX11_tell_22 rfl (by decide) (by decide) rfl) ?_
  refine ex_s (fun _ => ev_callV kX11_283 co107 (qX9_putNumber (n := 0) rfl (by omega) (by have := hk1 0 (by omega); omega)) dX11_tell_25 rfl (by decide) (by decide) rfl) ?_
  refine ex_s (fun _ => ev_aload_n dX11_tell_28 rfl) ?_
  refine ex_s (fun _ => ev_getR fX11_53 dX11_tell_29 (by decide) sh0 rfl) ?_
  refine ex_s (fun _ => ev_bipush (v := nI 58) dX11_tell_32 (by decide)) ?_
  have hl0 := lnA_n (lnA_0 (w := w)) (by decide) (v := rP (aS A) i 0) (by have := hk1 0 (by omega); omega)
  have hn0 := nuL_le (rP (aS A) i 0)
  have hl1 := lnA_s hl0 (by rw [List.nil_append]; omega) (v := 58) (by decide)
  refine ex_s (fun _ => ev_callV kX11_276 co107 (qX9_put_107 hl0.1 (by rw [List.nil_append]; omega) (pC_nar (by decide))) dX11_tell_34 rfl (by decide) (by decide) rfl) ?_
  refine ex_s (fun _ => ev_iconst dX11_tell_37 ic0) ?_
  refine ex_s (fun _ => ev_ist2 dX11_tell_38 (by decide) rfl) ?_
  have lp : ∀ (n9 j : Nat) (x : WS), j + n9 = rN (aS A) i → lnA (telP (aS A) i j) x → frG [(107, 108)] w x → Ex G 8 1 mX11_tell 39 [some (.ref 0), some (.int (nI i)), some (.int (nI j))] [] x (pF ["java/lang/IndexOutOfBoundsException"] ((0, nI (telL (aS A) i).length), mkA (aS A) (aV A) (aH A) (aN A) (aT A) (telL (aS A) i) (aK A) (aE A)) w) := by
    intro n9
    induction n9 with
    | zero =>
      intro j x hi9 hl hf
      refine ex_s (fun _ => ev_iload_n dX11_tell_39 rfl) ?_
      refine ex_s (fun _ => ev_aload_n dX11_tell_40 rfl) ?_
      refine ex_s (fun _ => ev_getR fX11_10 dX11_tell_41 (by decide) sh0 rfl) ?_
      refine ex_s (fun _ => ev_iload_n dX11_tell_44 rfl) ?_
      have hle := telP_le (aS A) i j
      have hSx := cmG h.1 hf (by decide)
      refine ex_s (fun _ => ev_callV kX11_158 co1 (qX1_stepsOf hSx hi) dX11_tell_45 rfl (by decide) (by decide) rfl) ?_
      refine ex_s (fun _ => ev_icmp_ge_t (tgt := 87) dX11_tell_48 (by decide) (nI_le (by omega) (by omega))) ?_
      obtain rfl : j = rN (aS A) i := by omega
      refine ex_s (fun _ => ev_aload_n dX11_tell_87 rfl) ?_
      refine ex_s (fun _ => ev_getR fX11_53 dX11_tell_88 (by decide) sh0 rfl) ?_
      refine ex_s (fun _ => ev_bipush (v := nI 61) dX11_tell_91 (by decide)) ?_
      refine ex_s (fun _ => ev_callV kX11_276 co107 (qX9_put_107 hl.1 (by omega) (pC_nar (by decide))) dX11_tell_93 rfl (by decide) (by decide) rfl) ?_
      refine ex_s (fun _ => ev_aload_n dX11_tell_96 rfl) ?_
      refine ex_s (fun _ => ev_getR fX11_53 dX11_tell_97 (by decide) sh0 rfl) ?_
      refine ex_s (fun _ => ev_aload_n dX11_tell_100 rfl) ?_
      refine ex_s (fun _ => ev_getR fX11_10 dX11_tell_101 (by decide) sh0 rfl) ?_
      refine ex_s (fun _ => ev_iload_n dX11_tell_104 rfl) ?_
      have hS1 : cm_ (aS A) (wPut x 107 (telP (aS A) i (rN (aS A) i)).length (nI 61)) := cmG hSx fr_wPut (by decide)
      have hl1 := lnA_s hl (by omega) (v := 61) (by decide)
      have hlen1 : (telP (aS A) i (rN (aS A) i) ++ [61]).length = (telP (aS A) i (rN (aS A) i)).length + 1 := by rw [List.length_append]; rfl
      refine ex_s (fun _ => ev_callV kX11_165 co1 (qX1_toldOf hS1 hi) dX11_tell_105 rfl (by decide) (by decide) rfl) ?_
      refine ex_s (fun _ => ev_callV kX11_283 co107 (qX9_putNumber (n := (telP (aS A) i (rN (aS A) i)).length + 1) rfl (by omega) (by omega)) dX11_tell_108 rfl (by decide) (by decide) rfl) ?_
      refine ex_s (fun _ => ev_aload_n dX11_tell_111 rfl) ?_
      refine ex_s (fun _ => ev_getR fX11_10 dX11_tell_112 (by decide) sh0 rfl) ?_
      refine ex_s (fun _ => ev_iload_n dX11_tell_115 rfl) ?_
      refine ex_s (fun _ => ev_aload_n dX11_tell_116 rfl) ?_
      refine ex_s (fun _ => ev_getR fX11_10 dX11_tell_117 (by decide) sh0 rfl) ?_
      have hS2 : cm_ (aS A) (wNum (wPut x 107 (telP (aS A) i (rN (aS A) i)).length (nI 61)) ((telP (aS A) i (rN (aS A) i)).length + 1) (rT (aS A) i)) := cmG hS1 fr_wNum (by decide)
      have hl2 := lnA_n hl1 (by omega) (v := rT (aS A) i) (by omega)
      rw [hlen1] at hl2
      have hnl := nuL_le (rT (aS A) i)
      have hlen2 : (telP (aS A) i (rN (aS A) i) ++ [61] ++ nuL (rT (aS A) i)).length ≤ 20 := by rw [List.length_append, hlen1]; omega
      refine ex_s (fun _ => ev_getI fX11_168 dX11_tell_120 (by decide) sh1 rfl) ?_
      refine ex_s (fun _ => ev_top ((cm_cells hS2).2.2.2.2.2.2.1.trans hm0)) ?_
      refine ex_s (fun _ => ev_callS kX11_290 (qX10_wrongBy hS2 hi hm9) dX11_tell_123 rfl (by decide) (by decide) rfl) ?_
      refine ex_bp (fun _ => ev_if_eq (tgt := 138) dX11_tell_126 (by decide)) (fun hc126 => ?_) (fun hc126 => ?_)
      · have e126 : wr (aS A) mm i = 0 := nI_inj (by have := wr_le h.1.2 hi hm9; omega) (by decide) hc126
        refine ex_s (fun _ => ev_aload_n dX11_tell_138 rfl) ?_
        refine ex_s (fun _ => ev_getR fX11_53 dX11_tell_139 (by decide) sh0 rfl) ?_
        refine ex_s (fun _ => ev_getI fX11_280 dX11_tell_142 (by decide) sh107 rfl) ?_
        refine ex_s (fun _ => ev_top hl2.1) ?_
        exact ⟨_, _, (by rw [hte e126]; exact ⟨rfl, aX_l h hl2 (frG_tr hf (frG_tr fr_wPut fr_wNum)), frG_mo (frG_tr hf (frG_tr fr_wPut fr_wNum)) (by decide)⟩), ev_iret dX11_tell_145 rfl rfl rfl rfl⟩
      · have e126 : ¬ wr (aS A) mm i = 0 := fun q => hc126 (by rw [q]; rfl)
        have hl3 := lnA_s hl2 (by omega) (v := 63) (by decide)
        refine ex_s (fun _ => ev_aload_n dX11_tell_129 rfl) ?_
        refine ex_s (fun _ => ev_getR fX11_53 dX11_tell_130 (by decide) sh0 rfl) ?_
        refine ex_s (fun _ => ev_bipush (v := nI 63) dX11_tell_133 (by decide)) ?_
        refine ex_s (fun _ => ev_callV kX11_276 co107 (qX9_put_107 hl2.1 (by omega) (pC_nar (by decide))) dX11_tell_135 rfl (by decide) (by decide) rfl) ?_
        refine ex_s (fun _ => ev_aload_n dX11_tell_138 rfl) ?_
        refine ex_s (fun _ => ev_getR fX11_53 dX11_tell_139 (by decide) sh0 rfl) ?_
        refine ex_s (fun _ => ev_getI fX11_280 dX11_tell_142 (by decide) sh107 rfl) ?_
        refine ex_s (fun _ => ev_top hl3.1) ?_
        exact ⟨_, _, (by rw [htn e126]; exact ⟨rfl, aX_l h hl3 (frG_tr (frG_tr hf (frG_tr fr_wPut fr_wNum)) fr_wPut), frG_mo (frG_tr (frG_tr hf (frG_tr fr_wPut fr_wNum)) fr_wPut) (by decide)⟩), ev_iret dX11_tell_145 rfl rfl rfl rfl⟩
    | succ n9 ih =>
      intro j x hi9 hl hf
      refine ex_s (fun _ => ev_iload_n dX11_tell_39 rfl) ?_
      refine ex_s (fun _ => ev_aload_n dX11_tell_40 rfl) ?_
      refine ex_s (fun _ => ev_getR fX11_10 dX11_tell_41 (by decide) sh0 rfl) ?_
      refine ex_s (fun _ => ev_iload_n dX11_tell_44 rfl) ?_
      have hle := telP_le (aS A) i j
      have hSx := cmG h.1 hf (by decide)
      refine ex_s (fun _ => ev_callV kX11_158 co1 (qX1_stepsOf hSx hi) dX11_tell_45 rfl (by decide) (by decide) rfl) ?_
      refine ex_s (fun _ => ev_icmp_ge_f (tgt := 87) dX11_tell_48 (by decide) (nI_ge (by omega) (by omega))) ?_
      refine ex_s (fun _ => ev_aload_n dX11_tell_51 rfl) ?_
      refine ex_s (fun _ => ev_getR fX11_53 dX11_tell_52 (by decide) sh0 rfl) ?_
      refine ex_s (fun _ => ev_aload_n dX11_tell_55 rfl) ?_
      refine ex_s (fun _ => ev_getR fX11_10 dX11_tell_56 (by decide) sh0 rfl) ?_
      refine ex_s (fun _ => ev_iload_n dX11_tell_59 rfl) ?_
      refine ex_s (fun _ => ev_iload_n dX11_tell_60 rfl) ?_
      refine ex_s (fun _ => ev_callV kX11_161 co1 (qX1_placeOf hSx hi (by omega)) dX11_tell_61 rfl (by decide) (by decide) rfl) ?_
      refine ex_s (fun _ => ev_aload_n dX11_tell_64 rfl) ?_
      refine ex_s (fun _ => ev_getR fX11_10 dX11_tell_65 (by decide) sh0 rfl) ?_
      refine ex_s (fun _ => ev_iload_n dX11_tell_68 rfl) ?_
      refine ex_s (fun _ => ev_iload_n dX11_tell_69 rfl) ?_
      refine ex_s (fun _ => ev_iconst dX11_tell_70 ic1) ?_
      refine ex_s (fun _ => ev_iadd dX11_tell_71) ?_
      rw [nI_add]
      refine ex_s (fun _ => ev_callV kX11_161 co1 (qX1_placeOf hSx hi (by omega)) dX11_tell_72 rfl (by decide) (by decide) rfl) ?_
      obtain ⟨hd4, hnb⟩ := stF_ok h.1.2 hi (show j < rN (aS A) i by omega)
      have hs128 : sgS (stF (aS A) i j) < 128 := by unfold sgS; (repeat' split) <;> decide
      refine ex_s (fun _ => ev_callS kX11_286 (qX11_signOfStep ((hk1 j (by omega))) hd4 hnb) dX11_tell_75 rfl (by decide) (by decide) rfl) ?_
      refine ex_s (fun _ => ev_callV kX11_276 co107 (qX9_put_107 hl.1 (by omega) (pC_nar (by omega))) dX11_tell_78 rfl (by decide) (by decide) rfl) ?_
      refine ex_s (fun _ => ev_iinc2 dX11_tell_81 (nI_inc _) (by decide) rfl) ?_
      refine ex_s (fun _ => ev_goto (tgt := 39) dX11_tell_84 (by decide)) ?_
      have q := lnA_s hl (by omega) hs128
      rw [← telP_s] at q
      exact ih (j + 1) _ (by omega) q (frG_tr hf fr_wPut)
  refine lp (rN (aS A) i) 0 _ (Nat.zero_add _) ?_ (frG_tr (frG_tr hf0 fr_wNum) fr_wPut)
  rw [show telP (aS A) i 0 = [] ++ nuL (rP (aS A) i 0) ++ [58] by unfold telP; simp]
  exact hl1
theorem fX11_tell {G : GX} {w : WS} {A : AS} (h : aX A w) (x : Int32) : ∃ o w2, pF ["java/lang/IndexOutOfBoundsException"] (spTell A x) w o w2 ∧ Big G 8 1 mX11_tell [.ref 0, .int x] w o w2 := by
  unfold spTell
  rcases ixN_or (nR (aS A)) (by have := h.1.2.2.1.1; omega) x with ⟨h1, e1⟩ | ⟨i, h1, rfl, e1⟩
  · rw [e1]; exact fX11_tell_n h h1
  · rw [e1]; exact fX11_tell_y h h1
def spChar (A : AS) (x : Int32) : (Nat × Int32) × AS := match ixN (aL A).length x with
  | none => ((1, 0), A)
  | some i => ((0, nI ((aL A).getD i 0)), A)
set_option maxRecDepth 4000 in
theorem fX11_character_n {G : GX} {w : WS} {A : AS} (h : aX A w) {x : Int32} (hx : out_ (aL A).length x) : ∃ o w2, (pF ["java/util/NoSuchElementException"] (((1, 0), A)) w o w2) ∧ Big G 8 1 mX11_character [.ref 0, .int x] w o w2 := by
  refine bx_of (P := pF ["java/util/NoSuchElementException"] (((1, 0), A)) w) (by decide +kernel) (Nat.le_of_ble_eq_true rfl) ?_
  show Ex G 8 1 mX11_character 0 [some (.ref 0), some (.int x)] [] w _
  refine ex_s (fun _ => ev_aload_n dX11_character_0 rfl) ?_
  refine ex_s (fun _ => ev_getR fX11_53 dX11_character_1 (by decide) sh0 rfl) ?_
  refine ex_s (fun _ => ev_iload_n dX11_character_4 rfl) ?_
  refine ex_s (fun _ => ev_callV kX11_293 co107 (qX9_signAt_107n h.2.2.2.2.1.1 hx) dX11_character_5 rfl (by decide) (by decide) rfl) ?_
  refine ex_s (fun _ => ev_iconst dX11_character_8 icm1) ?_
  refine ex_s (fun _ => ev_icmp_ne_f (tgt := 23) dX11_character_9 (by decide) rfl) ?_
  exact ⟨_, _, (by exact ⟨rfl, h, frG_rf⟩), ev_throwWN tX11_176_296_180 dX11_character_12 dX11_character_15 dX11_character_16 dX11_character_19 dX11_character_22 (by decide) rfl rfl⟩
set_option maxRecDepth 4000 in
theorem fX11_character_y {G : GX} {w : WS} {A : AS} (h : aX A w) {i : Nat} (hi : i < (aL A).length) : ∃ o w2, (pF ["java/util/NoSuchElementException"] (((0, nI ((aL A).getD i 0)), A)) w o w2) ∧ Big G 8 1 mX11_character [.ref 0, .int (nI i)] w o w2 := by
  obtain ⟨hl1, hl2, hl3⟩ := h.2.2.2.2.1
  have hv := hl3 i ((aL A).getD i 0) (by rw [List.getD_eq_getElem?_getD, List.getElem?_eq_getElem hi]; rfl)
  refine bx_of (P := pF ["java/util/NoSuchElementException"] (((0, nI ((aL A).getD i 0)), A)) w) (by decide +kernel) (Nat.le_of_ble_eq_true rfl) ?_
  show Ex G 8 1 mX11_character 0 [some (.ref 0), some (.int (nI i))] [] w _
  refine ex_s (fun _ => ev_aload_n dX11_character_0 rfl) ?_
  refine ex_s (fun _ => ev_getR fX11_53 dX11_character_1 (by decide) sh0 rfl) ?_
  refine ex_s (fun _ => ev_iload_n dX11_character_4 rfl) ?_
  refine ex_s (fun _ => ev_callV kX11_293 co107 (qX9_signAt_107y hl1 (by omega) hi) dX11_character_5 rfl (by decide) (by decide) rfl) ?_
  refine ex_s (fun _ => ev_top hv.1) ?_
  refine ex_s (fun _ => ev_iconst dX11_character_8 icm1) ?_
  refine ex_s (fun _ => ev_icmp_ne_t (tgt := 23) dX11_character_9 (by decide) (nI_m1 (by omega))) ?_
  refine ex_s (fun _ => ev_aload_n dX11_character_23 rfl) ?_
  refine ex_s (fun _ => ev_getR fX11_53 dX11_character_24 (by decide) sh0 rfl) ?_
  refine ex_s (fun _ => ev_iload_n dX11_character_27 rfl) ?_
  refine ex_s (fun _ => ev_callV kX11_293 co107 (qX9_signAt_107y hl1 (by omega) hi) dX11_character_28 rfl (by decide) (by decide) rfl) ?_
  refine ex_s (fun _ => ev_top hv.1) ?_
  refine ex_s (fun _ => ev_i2c dX11_character_31 (pC_i2c (by omega))) ?_
  exact ⟨_, _, (by exact ⟨rfl, h, frG_rf⟩), ev_iret dX11_character_32 rfl (pk_charN (by omega)).1 rfl rfl⟩
theorem fX11_character {G : GX} {w : WS} {A : AS} (h : aX A w) (x : Int32) : ∃ o w2, pF ["java/util/NoSuchElementException"] (spChar A x) w o w2 ∧ Big G 8 1 mX11_character [.ref 0, .int x] w o w2 := by
  unfold spChar
  rcases ixN_or (aL A).length (by have := h.2.2.2.2.1.2.1; omega) x with ⟨h1, e1⟩ | ⟨i, h1, rfl, e1⟩
  · rw [e1]; exact fX11_character_n h h1
  · rw [e1]; exact fX11_character_y h h1
theorem dd_ok : ∀ a : Fin 829, ∀ b : Fin 4, FP.ddiv (FP.i2d (nI a.val)) (FP.i2d (nI (b.val + 1))) &&& 0x7fffffffffffffff ≤ 0x7ff0000000000000 := by decide +kernel
theorem ff_ok : ∀ a : Fin 65, FP.fdiv (FP.i2f (nI a.val)) (FP.i2f (nI 64)) &&& 0x7fffffff ≤ 0x7f800000 := by decide +kernel
theorem ff_ok2 : ∀ a : Fin 65, FP.fdiv (FP.i2f (nI a.val)) 1115684864 &&& 0x7fffffff ≤ 0x7f800000 := by decide +kernel
theorem gf303 : Cond.constantFloat "MapScales" 304 1115684864 ∈ gd_ := gc5 180 (by decide +kernel) rfl
theorem f64_eq : FP.i2f (nI 64) = 1115684864 := by decide +kernel
def mwD (S : ST) : UInt64 := FP.ddiv (FP.i2d (qWr S)) (FP.i2d (nI (nR S)))
def osF (S : ST) : UInt32 := FP.fdiv (FP.i2f (nI (64 - cO S (-1)))) 1115684864
theorem mw_ok {S : ST} (hk : okS S) (hn : nR S ≠ 0) : vf_n64 (FP.ddiv (FP.i2d (qWr S)) (FP.i2d (nI (nR S)))) := by
  obtain ⟨m, h1, h9, h0⟩ := hk.2.2.2
  have h4 := hk.2.1.1
  have hq : qWr S = nI (awr S m) := by unfold qWr; rw [h0, oN_nI (by omega)]
  have hle : awr S m ≤ 828 := by
    have h := sm_le (f := wr S m) (b := 207) (n := nR S) (fun i hi => wr_le hk hi h9)
    have : nR S * 207 ≤ 4 * 207 := Nat.mul_le_mul_right _ h4
    unfold awr
    omega
  rw [hq]
  have q := dd_ok ⟨awr S m, by omega⟩ ⟨nR S - 1, by omega⟩
  rw [show (⟨nR S - 1, by omega⟩ : Fin 4).val + 1 = nR S by show nR S - 1 + 1 = nR S; omega] at q
  exact q
set_option maxRecDepth 4000 in
theorem qX11_meanWrong_n {G : GX} {w : WS} {S : ST} (hS : cm_ S w) (hn : nR S = 0) : Big G 5 1 mX11_meanWrong [.ref 0] w (.inr "java/lang/ArithmeticException") w := by
  refine big_of (by decide +kernel) (Nat.le_of_ble_eq_true rfl) ?_
  have hS0 := hS
  obtain ⟨hO, hC, hR, hRv, hD, hDv, hM0, hM1, hM2, hM3, hM4⟩ := cm_cells hS
  obtain ⟨mm, hm1, hm9, hm0⟩ := hS.2.2.2.2
  have h4 := hS.2.2.1.1
  show Ev G 5 1 mX11_meanWrong 0 [some (.ref 0)] [] w _
  refine ev_aload_n dX11_meanWrong_0 rfl ?_
  refine ev_getR fX11_10 dX11_meanWrong_1 (by decide) sh0 rfl ?_
  refine ev_getI fX11_236 dX11_meanWrong_4 (by decide) sh1 rfl ?_
  refine ev_top (hR.trans (by rw [hn])) ?_
  refine ev_if_ne_f (tgt := 20) dX11_meanWrong_7 (by decide) rfl ?_
  exact ev_throw tX11_298_239_300 dX11_meanWrong_10 dX11_meanWrong_13 dX11_meanWrong_14 dX11_meanWrong_16 dX11_meanWrong_19 (by decide) rfl rfl
set_option maxRecDepth 4000 in
theorem qX11_meanWrong_y {G : GX} {w : WS} {S : ST} (hS : cm_ S w) (hn : nR S ≠ 0) : Big G 5 1 mX11_meanWrong [.ref 0] w (.inl (some (.double (mwD S)))) w := by
  refine big_of (by decide +kernel) (Nat.le_of_ble_eq_true rfl) ?_
  have hS0 := hS
  obtain ⟨hO, hC, hR, hRv, hD, hDv, hM0, hM1, hM2, hM3, hM4⟩ := cm_cells hS
  obtain ⟨mm, hm1, hm9, hm0⟩ := hS.2.2.2.2
  have h4 := hS.2.2.1.1
  show Ev G 5 1 mX11_meanWrong 0 [some (.ref 0)] [] w _
  refine ev_aload_n dX11_meanWrong_0 rfl ?_
  refine ev_getR fX11_10 dX11_meanWrong_1 (by decide) sh0 rfl ?_
  refine ev_getI fX11_236 dX11_meanWrong_4 (by decide) sh1 rfl ?_
  refine ev_top hR ?_
  refine ev_if_ne_t (tgt := 20) dX11_meanWrong_7 (by decide) (fun q => hn (nI_inj (by omega) (by decide) q)) ?_
  refine ev_aload_n dX11_meanWrong_20 rfl ?_
  refine ev_getR fX11_10 dX11_meanWrong_21 (by decide) sh0 rfl ?_
  refine ev_aload_n dX11_meanWrong_24 rfl ?_
  refine ev_getR fX11_10 dX11_meanWrong_25 (by decide) sh0 rfl ?_
  refine ev_getI fX11_168 dX11_meanWrong_28 (by decide) sh1 rfl ?_
  refine ev_top (hM0.trans hm0) ?_
  refine ev_callS kX11_233 (qX10_allWrongBy hS0 hm9) dX11_meanWrong_31 rfl (by decide) (by decide) rfl ?_
  refine ev_top (y := qWr S) (by unfold qWr; rw [hm0, oN_nI (by omega)]) ?_
  refine ev_i2d dX11_meanWrong_34 ?_
  refine ev_aload_n dX11_meanWrong_35 rfl ?_
  refine ev_getR fX11_10 dX11_meanWrong_36 (by decide) sh0 rfl ?_
  refine ev_getI fX11_236 dX11_meanWrong_39 (by decide) sh1 rfl ?_
  refine ev_top hR ?_
  refine ev_i2d dX11_meanWrong_42 ?_
  refine ev_ddiv dX11_meanWrong_43 (mw_ok hS0.2 hn) ?_
  exact ev_dret dX11_meanWrong_44 rfl rfl rfl
set_option maxRecDepth 4000 in
theorem qX11_ownedShare {G : GX} {w : WS} {S : ST} (hS : cm_ S w) : Big G 5 1 mX11_ownedShare [.ref 0] w (.inl (some (.float (osF S)))) w := by
  refine big_of (by decide +kernel) (Nat.le_of_ble_eq_true rfl) ?_
  show Ev G 5 1 mX11_ownedShare 0 [some (.ref 0)] [] w _
  refine ev_aload_n dX11_ownedShare_0 rfl ?_
  refine ev_getR fX11_10 dX11_ownedShare_1 (by decide) sh0 rfl ?_
  refine ev_callV kX11_301 co1 (qX1_ownedCells hS) dX11_ownedShare_4 rfl (by decide) (by decide) rfl ?_
  refine ev_i2f dX11_ownedShare_7 ?_
  refine ev_ldcfw (v := 1115684864) dX11_ownedShare_8 gf303 ?_
  refine ev_fdiv dX11_ownedShare_11 (ff_ok2 ⟨64 - cO S (-1), by omega⟩) ?_
  exact ev_fret dX11_ownedShare_12 rfl rfl rfl
def acV (A : AS) (k : Nat) : Int32 := if k = 0 then nI (64 - cO (aS A) (-1)) else if k = 1 then nI (nR (aS A)) else if k = 2 then nI (nD (aS A)) else if k = 3 then al_S (aS A) 4 else if k = 4 then sM (aS A) 0 else if k = 5 then sM (aS A) 1 else if k = 6 then sM (aS A) 2 else if k = 7 then sM (aS A) 3 else if k = 8 then sM (aS A) 4 else if k = 9 then nI (aN A) else nI (aH A).length
def spAcc (A : AS) (x : Int32) : (Nat × Int32) × AS := match ixN 11 x with
  | none => ((1, 0), A)
  | some k => ((0, acV A k), A)
set_option maxRecDepth 4000 in
theorem fX11_account_n {G : GX} {w : WS} {A : AS} (h : aX A w) {x : Int32} (hx : out_ 11 x) : ∃ o w2, (pF ["java/lang/IllegalArgumentException"] (((1, 0), A)) w o w2) ∧ Big G 8 1 mX11_account [.ref 0, .int x] w o w2 := by
  refine bx_of (P := pF ["java/lang/IllegalArgumentException"] (((1, 0), A)) w) (by decide +kernel) (Nat.le_of_ble_eq_true rfl) ?_
  show Ex G 8 1 mX11_account 0 [some (.ref 0), some (.int x)] [] w _
  refine ex_s (fun _ => ev_iload_n dX11_account_0 rfl) ?_
  refine ex_s (fun _ => ev_tableOut (tgt := 148) dX11_account_1 (by
        rcases hx with q | q
        · left
          rw [Int32.lt_iff_toInt_lt] at q
          exact q
        · right
          rw [Int32.le_iff_toInt_le] at q
          have e : (nI 11).toInt = 11 := by decide
          omega) (by decide)) ?_
  exact ⟨_, _, (by exact ⟨rfl, h, frG_rf⟩), ev_throwW tX11_82_326_86 dX11_account_148 dX11_account_151 dX11_account_152 dX11_account_155 dX11_account_158 (by decide) rfl rfl⟩
set_option maxRecDepth 4000 in
theorem fX11_account_0 {G : GX} {w : WS} {A : AS} (h : aX A w) : ∃ o w2, (pF ["java/lang/IllegalArgumentException"] (((0, acV A 0), A)) w o w2) ∧ Big G 8 1 mX11_account [.ref 0, .int (nI 0)] w o w2 := by
  have hS0 := h.1
  obtain ⟨hO, hC, hR, hRv, hD, hDv, hM0, hM1, hM2, hM3, hM4⟩ := cm_cells hS0
  obtain ⟨oo1, ho6, ho1, hHl, -⟩ := h.2.2.1
  refine bx_of (P := pF ["java/lang/IllegalArgumentException"] (((0, acV A 0), A)) w) (by decide +kernel) (Nat.le_of_ble_eq_true rfl) ?_
  show Ex G 8 1 mX11_account 0 [some (.ref 0), some (.int (nI 0))] [] w _
  refine ex_s (fun _ => ev_iload_n dX11_account_0 rfl) ?_
  refine ex_s (fun _ => ev_tableIn (tgt := 60) (off := 59) dX11_account_1 (by decide) (by decide) (by decide +kernel) (by decide)) ?_
  refine ex_s (fun _ => ev_aload_n dX11_account_60 rfl) ?_
  refine ex_s (fun _ => ev_getR fX11_10 dX11_account_61 (by decide) sh0 rfl) ?_
  refine ex_s (fun _ => ev_callV kX11_301 co1 (qX1_ownedCells hS0) dX11_account_64 rfl (by decide) (by decide) rfl) ?_
  exact ⟨_, _, (by exact ⟨rfl, h, frG_rf⟩), ev_iret dX11_account_67 rfl rfl rfl rfl⟩
set_option maxRecDepth 4000 in
theorem fX11_account_1 {G : GX} {w : WS} {A : AS} (h : aX A w) : ∃ o w2, (pF ["java/lang/IllegalArgumentException"] (((0, acV A 1), A)) w o w2) ∧ Big G 8 1 mX11_account [.ref 0, .int (nI 1)] w o w2 := by
  have hS0 := h.1
  obtain ⟨hO, hC, hR, hRv, hD, hDv, hM0, hM1, hM2, hM3, hM4⟩ := cm_cells hS0
  obtain ⟨oo1, ho6, ho1, hHl, -⟩ := h.2.2.1
  refine bx_of (P := pF ["java/lang/IllegalArgumentException"] (((0, acV A 1), A)) w) (by decide +kernel) (Nat.le_of_ble_eq_true rfl) ?_
  show Ex G 8 1 mX11_account 0 [some (.ref 0), some (.int (nI 1))] [] w _
  refine ex_s (fun _ => ev_iload_n dX11_account_0 rfl) ?_
  refine ex_s (fun _ => ev_tableIn (tgt := 68) (off := 67) dX11_account_1 (by decide) (by decide) (by decide +kernel) (by decide)) ?_
  refine ex_s (fun _ => ev_aload_n dX11_account_68 rfl) ?_
  refine ex_s (fun _ => ev_getR fX11_10 dX11_account_69 (by decide) sh0 rfl) ?_
  refine ex_s (fun _ => ev_getI fX11_236 dX11_account_72 (by decide) sh1 rfl) ?_
  refine ex_s (fun _ => ev_top hR) ?_
  exact ⟨_, _, (by exact ⟨rfl, h, frG_rf⟩), ev_iret dX11_account_75 rfl rfl rfl rfl⟩
set_option maxRecDepth 4000 in
theorem fX11_account_2 {G : GX} {w : WS} {A : AS} (h : aX A w) : ∃ o w2, (pF ["java/lang/IllegalArgumentException"] (((0, acV A 2), A)) w o w2) ∧ Big G 8 1 mX11_account [.ref 0, .int (nI 2)] w o w2 := by
  have hS0 := h.1
  obtain ⟨hO, hC, hR, hRv, hD, hDv, hM0, hM1, hM2, hM3, hM4⟩ := cm_cells hS0
  obtain ⟨oo1, ho6, ho1, hHl, -⟩ := h.2.2.1
  refine bx_of (P := pF ["java/lang/IllegalArgumentException"] (((0, acV A 2), A)) w) (by decide +kernel) (Nat.le_of_ble_eq_true rfl) ?_
  show Ex G 8 1 mX11_account 0 [some (.ref 0), some (.int (nI 2))] [] w _
  refine ex_s (fun _ => ev_iload_n dX11_account_0 rfl) ?_
  refine ex_s (fun _ => ev_tableIn (tgt := 76) (off := 75) dX11_account_1 (by decide) (by decide) (by decide +kernel) (by decide)) ?_
  refine ex_s (fun _ => ev_aload_n dX11_account_76 rfl) ?_
  refine ex_s (fun _ => ev_getR fX11_10 dX11_account_77 (by decide) sh0 rfl) ?_
  refine ex_s (fun _ => ev_getI fX11_305 dX11_account_80 (by decide) sh1 rfl) ?_
  refine ex_s (fun _ => ev_top hD) ?_
  exact ⟨_, _, (by exact ⟨rfl, h, frG_rf⟩), ev_iret dX11_account_83 rfl rfl rfl rfl⟩
set_option maxRecDepth 4000 in
theorem fX11_account_3 {G : GX} {w : WS} {A : AS} (h : aX A w) : ∃ o w2, (pF ["java/lang/IllegalArgumentException"] (((0, acV A 3), A)) w o w2) ∧ Big G 8 1 mX11_account [.ref 0, .int (nI 3)] w o w2 := by
  have hS0 := h.1
  obtain ⟨hO, hC, hR, hRv, hD, hDv, hM0, hM1, hM2, hM3, hM4⟩ := cm_cells hS0
  obtain ⟨oo1, ho6, ho1, hHl, -⟩ := h.2.2.1
  refine bx_of (P := pF ["java/lang/IllegalArgumentException"] (((0, acV A 3), A)) w) (by decide +kernel) (Nat.le_of_ble_eq_true rfl) ?_
  show Ex G 8 1 mX11_account 0 [some (.ref 0), some (.int (nI 3))] [] w _
  refine ex_s (fun _ => ev_iload_n dX11_account_0 rfl) ?_
  refine ex_s (fun _ => ev_tableIn (tgt := 84) (off := 83) dX11_account_1 (by decide) (by decide) (by decide +kernel) (by decide)) ?_
  refine ex_s (fun _ => ev_aload_n dX11_account_84 rfl) ?_
  refine ex_s (fun _ => ev_getR fX11_10 dX11_account_85 (by decide) sh0 rfl) ?_
  refine ex_s (fun _ => ev_callV kX11_308 co1 (qX1_allCoins hS0) dX11_account_88 rfl (by decide) (by decide) rfl) ?_
  exact ⟨_, _, (by exact ⟨rfl, h, frG_rf⟩), ev_iret dX11_account_91 rfl rfl rfl rfl⟩
set_option maxRecDepth 4000 in
theorem fX11_account_4 {G : GX} {w : WS} {A : AS} (h : aX A w) : ∃ o w2, (pF ["java/lang/IllegalArgumentException"] (((0, acV A 4), A)) w o w2) ∧ Big G 8 1 mX11_account [.ref 0, .int (nI 4)] w o w2 := by
  have hS0 := h.1
  obtain ⟨hO, hC, hR, hRv, hD, hDv, hM0, hM1, hM2, hM3, hM4⟩ := cm_cells hS0
  obtain ⟨oo1, ho6, ho1, hHl, -⟩ := h.2.2.1
  refine bx_of (P := pF ["java/lang/IllegalArgumentException"] (((0, acV A 4), A)) w) (by decide +kernel) (Nat.le_of_ble_eq_true rfl) ?_
  show Ex G 8 1 mX11_account 0 [some (.ref 0), some (.int (nI 4))] [] w _
  refine ex_s (fun _ => ev_iload_n dX11_account_0 rfl) ?_
  refine ex_s (fun _ => ev_tableIn (tgt := 92) (off := 91) dX11_account_1 (by decide) (by decide) (by decide +kernel) (by decide)) ?_
  refine ex_s (fun _ => ev_aload_n dX11_account_92 rfl) ?_
  refine ex_s (fun _ => ev_getR fX11_10 dX11_account_93 (by decide) sh0 rfl) ?_
  refine ex_s (fun _ => ev_getI fX11_168 dX11_account_96 (by decide) sh1 rfl) ?_
  refine ex_s (fun _ => ev_top hM0) ?_
  exact ⟨_, _, (by exact ⟨rfl, h, frG_rf⟩), ev_iret dX11_account_99 rfl rfl rfl rfl⟩
set_option maxRecDepth 4000 in
theorem fX11_account_5 {G : GX} {w : WS} {A : AS} (h : aX A w) : ∃ o w2, (pF ["java/lang/IllegalArgumentException"] (((0, acV A 5), A)) w o w2) ∧ Big G 8 1 mX11_account [.ref 0, .int (nI 5)] w o w2 := by
  have hS0 := h.1
  obtain ⟨hO, hC, hR, hRv, hD, hDv, hM0, hM1, hM2, hM3, hM4⟩ := cm_cells hS0
  obtain ⟨oo1, ho6, ho1, hHl, -⟩ := h.2.2.1
  refine bx_of (P := pF ["java/lang/IllegalArgumentException"] (((0, acV A 5), A)) w) (by decide +kernel) (Nat.le_of_ble_eq_true rfl) ?_
  show Ex G 8 1 mX11_account 0 [some (.ref 0), some (.int (nI 5))] [] w _
  refine ex_s (fun _ => ev_iload_n dX11_account_0 rfl) ?_
  refine ex_s (fun _ => ev_tableIn (tgt := 100) (off := 99) dX11_account_1 (by decide) (by decide) (by decide +kernel) (by decide)) ?_
  refine ex_s (fun _ => ev_aload_n dX11_account_100 rfl) ?_
  refine ex_s (fun _ => ev_getR fX11_10 dX11_account_101 (by decide) sh0 rfl) ?_
  refine ex_s (fun _ => ev_getI fX11_311 dX11_account_104 (by decide) sh1 rfl) ?_
  refine ex_s (fun _ => ev_top hM1) ?_
  exact ⟨_, _, (by exact ⟨rfl, h, frG_rf⟩), ev_iret dX11_account_107 rfl rfl rfl rfl⟩
set_option maxRecDepth 4000 in
theorem fX11_account_6 {G : GX} {w : WS} {A : AS} (h : aX A w) : ∃ o w2, (pF ["java/lang/IllegalArgumentException"] (((0, acV A 6), A)) w o w2) ∧ Big G 8 1 mX11_account [.ref 0, .int (nI 6)] w o w2 := by
  have hS0 := h.1
  obtain ⟨hO, hC, hR, hRv, hD, hDv, hM0, hM1, hM2, hM3, hM4⟩ := cm_cells hS0
  obtain ⟨oo1, ho6, ho1, hHl, -⟩ := h.2.2.1
  refine bx_of (P := pF ["java/lang/IllegalArgumentException"] (((0, acV A 6), A)) w) (by decide +kernel) (Nat.le_of_ble_eq_true rfl) ?_
  show Ex G 8 1 mX11_account 0 [some (.ref 0), some (.int (nI 6))] [] w _
  refine ex_s (fun _ => ev_iload_n dX11_account_0 rfl) ?_
  refine ex_s (fun _ => ev_tableIn (tgt := 108) (off := 107) dX11_account_1 (by decide) (by decide) (by decide +kernel) (by decide)) ?_
  refine ex_s (fun _ => ev_aload_n dX11_account_108 rfl) ?_
  refine ex_s (fun _ => ev_getR fX11_10 dX11_account_109 (by decide) sh0 rfl) ?_
  refine ex_s (fun _ => ev_getI fX11_314 dX11_account_112 (by decide) sh1 rfl) ?_
  refine ex_s (fun _ => ev_top hM2) ?_
  exact ⟨_, _, (by exact ⟨rfl, h, frG_rf⟩), ev_iret dX11_account_115 rfl rfl rfl rfl⟩
set_option maxRecDepth 4000 in
theorem fX11_account_7 {G : GX} {w : WS} {A : AS} (h : aX A w) : ∃ o w2, (pF ["java/lang/IllegalArgumentException"] (((0, acV A 7), A)) w o w2) ∧ Big G 8 1 mX11_account [.ref 0, .int (nI 7)] w o w2 := by
  have hS0 := h.1
  obtain ⟨hO, hC, hR, hRv, hD, hDv, hM0, hM1, hM2, hM3, hM4⟩ := cm_cells hS0
  obtain ⟨oo1, ho6, ho1, hHl, -⟩ := h.2.2.1
  refine bx_of (P := pF ["java/lang/IllegalArgumentException"] (((0, acV A 7), A)) w) (by decide +kernel) (Nat.le_of_ble_eq_true rfl) ?_
  show Ex G 8 1 mX11_account 0 [some (.ref 0), some (.int (nI 7))] [] w _
  refine ex_s (fun _ => ev_iload_n dX11_account_0 rfl) ?_
  refine ex_s (fun _ => ev_tableIn (tgt := 116) (off := 115) dX11_account_1 (by decide) (by decide) (by decide +kernel) (by decide)) ?_
  refine ex_s (fun _ => ev_aload_n dX11_account_116 rfl) ?_
  refine ex_s (fun _ => ev_getR fX11_10 dX11_account_117 (by decide) sh0 rfl) ?_
  refine ex_s (fun _ => ev_getI fX11_317 dX11_account_120 (by decide) sh1 rfl) ?_
  refine ex_s (fun _ => ev_top hM3) ?_
  exact ⟨_, _, (by exact ⟨rfl, h, frG_rf⟩), ev_iret dX11_account_123 rfl rfl rfl rfl⟩
set_option maxRecDepth 4000 in
theorem fX11_account_8 {G : GX} {w : WS} {A : AS} (h : aX A w) : ∃ o w2, (pF ["java/lang/IllegalArgumentException"] (((0, acV A 8), A)) w o w2) ∧ Big G 8 1 mX11_account [.ref 0, .int (nI 8)] w o w2 := by
  have hS0 := h.1
  obtain ⟨hO, hC, hR, hRv, hD, hDv, hM0, hM1, hM2, hM3, hM4⟩ := cm_cells hS0
  obtain ⟨oo1, ho6, ho1, hHl, -⟩ := h.2.2.1
  refine bx_of (P := pF ["java/lang/IllegalArgumentException"] (((0, acV A 8), A)) w) (by decide +kernel) (Nat.le_of_ble_eq_true rfl) ?_
  show Ex G 8 1 mX11_account 0 [some (.ref 0), some (.int (nI 8))] [] w _
  refine ex_s (fun _ => ev_iload_n dX11_account_0 rfl) ?_
  refine ex_s (fun _ => ev_tableIn (tgt := 124) (off := 123) dX11_account_1 (by decide) (by decide) (by decide +kernel) (by decide)) ?_
  refine ex_s (fun _ => ev_aload_n dX11_account_124 rfl) ?_
  refine ex_s (fun _ => ev_getR fX11_10 dX11_account_125 (by decide) sh0 rfl) ?_
  refine ex_s (fun _ => ev_getI fX11_320 dX11_account_128 (by decide) sh1 rfl) ?_
  refine ex_s (fun _ => ev_top hM4) ?_
  exact ⟨_, _, (by exact ⟨rfl, h, frG_rf⟩), ev_iret dX11_account_131 rfl rfl rfl rfl⟩
set_option maxRecDepth 4000 in
theorem fX11_account_9 {G : GX} {w : WS} {A : AS} (h : aX A w) : ∃ o w2, (pF ["java/lang/IllegalArgumentException"] (((0, acV A 9), A)) w o w2) ∧ Big G 8 1 mX11_account [.ref 0, .int (nI 9)] w o w2 := by
  have hS0 := h.1
  obtain ⟨hO, hC, hR, hRv, hD, hDv, hM0, hM1, hM2, hM3, hM4⟩ := cm_cells hS0
  obtain ⟨oo1, ho6, ho1, hHl, -⟩ := h.2.2.1
  refine bx_of (P := pF ["java/lang/IllegalArgumentException"] (((0, acV A 9), A)) w) (by decide +kernel) (Nat.le_of_ble_eq_true rfl) ?_
  show Ex G 8 1 mX11_account 0 [some (.ref 0), some (.int (nI 9))] [] w _
  refine ex_s (fun _ => ev_iload_n dX11_account_0 rfl) ?_
  refine ex_s (fun _ => ev_tableIn (tgt := 132) (off := 131) dX11_account_1 (by decide) (by decide) (by decide +kernel) (by decide)) ?_
  refine ex_s (fun _ => ev_aload_n dX11_account_132 rfl) ?_
  refine ex_s (fun _ => ev_getR fX11_47 dX11_account_133 (by decide) sh0 rfl) ?_
  refine ex_s (fun _ => ev_getI fX11_280 dX11_account_136 (by decide) sh104 rfl) ?_
  refine ex_s (fun _ => ev_top h.2.2.2.1.1) ?_
  exact ⟨_, _, (by exact ⟨rfl, h, frG_rf⟩), ev_iret dX11_account_139 rfl rfl rfl rfl⟩
set_option maxRecDepth 4000 in
theorem fX11_account_10 {G : GX} {w : WS} {A : AS} (h : aX A w) : ∃ o w2, (pF ["java/lang/IllegalArgumentException"] (((0, acV A 10), A)) w o w2) ∧ Big G 8 1 mX11_account [.ref 0, .int (nI 10)] w o w2 := by
  have hS0 := h.1
  obtain ⟨hO, hC, hR, hRv, hD, hDv, hM0, hM1, hM2, hM3, hM4⟩ := cm_cells hS0
  obtain ⟨oo1, ho6, ho1, hHl, -⟩ := h.2.2.1
  refine bx_of (P := pF ["java/lang/IllegalArgumentException"] (((0, acV A 10), A)) w) (by decide +kernel) (Nat.le_of_ble_eq_true rfl) ?_
  show Ex G 8 1 mX11_account 0 [some (.ref 0), some (.int (nI 10))] [] w _
  refine ex_s (fun _ => ev_iload_n dX11_account_0 rfl) ?_
  refine ex_s (fun _ => ev_tableIn (tgt := 140) (off := 139) dX11_account_1 (by decide) (by decide) (by decide +kernel) (by decide)) ?_
  refine ex_s (fun _ => ev_aload_n dX11_account_140 rfl) ?_
  refine ex_s (fun _ => ev_getR fX11_25 dX11_account_141 (by decide) sh0 rfl) ?_
  refine ex_s (fun _ => ev_getI fX11_323 dX11_account_144 (by decide) sh100 rfl) ?_
  refine ex_s (fun _ => ev_top hHl) ?_
  exact ⟨_, _, (by exact ⟨rfl, h, frG_rf⟩), ev_iret dX11_account_147 rfl rfl rfl rfl⟩
theorem fX11_account_y {G : GX} {w : WS} {A : AS} (h : aX A w) {i : Nat} (hi : i < 11) : ∃ o w2, pF ["java/lang/IllegalArgumentException"] ((0, acV A i), A) w o w2 ∧ Big G 8 1 mX11_account [.ref 0, .int (nI i)] w o w2 := by
  obtain rfl | rfl | rfl | rfl | rfl | rfl | rfl | rfl | rfl | rfl | rfl : i = 0 ∨ i = 1 ∨ i = 2 ∨ i = 3 ∨ i = 4 ∨ i = 5 ∨ i = 6 ∨ i = 7 ∨ i = 8 ∨ i = 9 ∨ i = 10 := by omega
  · exact fX11_account_0 h
  · exact fX11_account_1 h
  · exact fX11_account_2 h
  · exact fX11_account_3 h
  · exact fX11_account_4 h
  · exact fX11_account_5 h
  · exact fX11_account_6 h
  · exact fX11_account_7 h
  · exact fX11_account_8 h
  · exact fX11_account_9 h
  · exact fX11_account_10 h
theorem fX11_account {G : GX} {w : WS} {A : AS} (h : aX A w) (x : Int32) : ∃ o w2, pF ["java/lang/IllegalArgumentException"] (spAcc A x) w o w2 ∧ Big G 8 1 mX11_account [.ref 0, .int x] w o w2 := by
  unfold spAcc
  rcases ixN_or 11 (by decide) x with ⟨h1, e1⟩ | ⟨i, h1, rfl, e1⟩
  · rw [e1]; exact fX11_account_n h h1
  · rw [e1]; exact fX11_account_y h h1
def spApp (A : AS) (c : Nat) : (Nat × Int32) × AS := if c < 32 ∨ 126 < c then ((1, 0), A) else if 60 ≤ aN A then ((2, 0), A) else ((0, nI (aN A + 1)), mkA (aS A) (aV A) (aH A) (aN A + 1) (va_up (aT A) (aN A) c) (aL A) (aK A) (aE A))
theorem aX_i {A : AS} {w : WS} (h : aX A w) {c : Nat} (h1 : 32 ≤ c) (h2 : c ≤ 126) (hn : aN A < 60) : aX (mkA (aS A) (aV A) (aH A) (aN A + 1) (va_up (aT A) (aN A) c) (aL A) (aK A) (aE A)) (wPut w 104 (aN A) (nI c)) := by
  have hf : frG [(104, 105)] w (wPut w 104 (aN A) (nI c)) := frG_cs (frG_cs frG_rf (by decide) _) (by decide) _
  obtain ⟨g1, g2, g3, g4, g5, g6, g7, g8⟩ := h
  refine ⟨cmG g1 hf (by decide), svG g2 hf (by decide) (by decide), hG g3 hf (by decide), ⟨rfl, hn, fun i hi => ?_⟩, lnG g5 hf (by decide), kG g6 hf (by decide), by rw [frG_at hf (by decide)]; exact g7, g8⟩
  have hi : i < aN A + 1 := hi
  show upd (w.1 105) (aN A) (nI c) i = nI (va_up (aT A) (aN A) c i) ∧ 32 ≤ va_up (aT A) (aN A) c i ∧ va_up (aT A) (aN A) c i ≤ 126
  unfold upd va_up
  by_cases e : i = aN A
  · rw [if_pos e, if_pos e]; exact ⟨rfl, h1, h2⟩
  · rw [if_neg e, if_neg e]; exact g4.2.2 i (by omega)
set_option maxRecDepth 4000 in
theorem fX11_append {G : GX} {w : WS} {A : AS} (h : aX A w) {c : Nat} (hc : c < 65536) : ∃ o w2, (pF ["java/lang/IllegalArgumentException", "java/lang/IllegalStateException"] (spApp A c) w o w2) ∧ Big G 8 1 mX11_append [.ref 0, .int (nI c)] w o w2 := by
  have h60 := h.2.2.2.1.2.1
  refine bx_of (P := pF ["java/lang/IllegalArgumentException", "java/lang/IllegalStateException"] (spApp A c) w) (by decide +kernel) (Nat.le_of_ble_eq_true rfl) ?_
  show Ex G 8 1 mX11_append 0 [some (.ref 0), some (.int (nI c))] [] w _
  refine ex_s (fun _ => ev_iload_n dX11_append_0 rfl) ?_
  refine ex_s (fun _ => ev_bipush (v := nI 32) dX11_append_1 (by decide)) ?_
  refine ex_bp (fun _ => ev_icmp_lt (tgt := 12) dX11_append_3 (by decide)) (fun hc3 => ?_) (fun hc3 => ?_)
  · have e3 : c < 32 := (pk_lt' (by omega) (by decide)).mp hc3
    exact ⟨_, _, (by unfold spApp; rw [if_pos (Or.inl e3)]; exact ⟨rfl, h, frG_rf⟩), ev_throwW tX11_82_328_86 dX11_append_12 dX11_append_15 dX11_append_16 dX11_append_19 dX11_append_22 (by decide) rfl rfl⟩
  · have e3 : ¬ c < 32 := fun q => hc3 ((pk_lt' (by omega) (by decide)).mpr q)
    refine ex_s (fun _ => ev_iload_n dX11_append_6 rfl) ?_
    refine ex_s (fun _ => ev_bipush (v := nI 126) dX11_append_7 (by decide)) ?_
    refine ex_bp (fun _ => ev_icmp_le (tgt := 23) dX11_append_9 (by decide)) (fun hc9 => ?_) (fun hc9 => ?_)
    · have e9 : c ≤ 126 := nI_sub_le hc9 (by omega) (by decide)
      refine ex_s (fun _ => ev_aload_n dX11_append_23 rfl) ?_
      refine ex_s (fun _ => ev_getR fX11_47 dX11_append_24 (by decide) sh0 rfl) ?_
      refine ex_s (fun _ => ev_getI fX11_280 dX11_append_27 (by decide) sh104 rfl) ?_
      refine ex_s (fun _ => ev_top h.2.2.2.1.1) ?_
      refine ex_s (fun _ => ev_bipush (v := nI 60) dX11_append_30 (by decide)) ?_
      refine ex_bp (fun _ => ev_icmp_lt (tgt := 46) dX11_append_32 (by decide)) (fun hc32 => ?_) (fun hc32 => ?_)
      · have e32 : aN A < 60 := (pk_lt' (by omega) (by decide)).mp hc32
        refine ex_s (fun _ => ev_aload_n dX11_append_46 rfl) ?_
        refine ex_s (fun _ => ev_getR fX11_47 dX11_append_47 (by decide) sh0 rfl) ?_
        refine ex_s (fun _ => ev_iload_n dX11_append_50 rfl) ?_
        refine ex_s (fun _ => ev_callV kX11_276 co104 (qX9_put_104 h.2.2.2.1.1 e32 (pC_nar hc)) dX11_append_51 rfl (by decide) (by decide) rfl) ?_
        refine ex_s (fun _ => ev_aload_n dX11_append_54 rfl) ?_
        refine ex_s (fun _ => ev_getR fX11_47 dX11_append_55 (by decide) sh0 rfl) ?_
        refine ex_s (fun _ => ev_getI fX11_280 dX11_append_58 (by decide) sh104 rfl) ?_
        refine ex_s (fun _ => ev_top (y := nI (aN A + 1)) rfl) ?_
        exact ⟨_, _, (by unfold spApp; rw [if_neg (by omega), if_neg (by omega)]; exact ⟨rfl, aX_i h (by omega) e9 e32, frG_cs (frG_cs frG_rf (by decide) _) (by decide) _⟩), ev_iret dX11_append_61 rfl rfl rfl rfl⟩
      · have e32 : ¬ aN A < 60 := fun q => hc32 ((pk_lt' (by omega) (by decide)).mpr q)
        exact ⟨_, _, (by unfold spApp; rw [if_neg (by omega), if_pos (by omega)]; exact ⟨rfl, h, frG_rf⟩), ev_throwW tX11_114_330_118 dX11_append_35 dX11_append_38 dX11_append_39 dX11_append_42 dX11_append_45 (by decide) rfl rfl⟩
    · have e9 : ¬ c ≤ 126 := fun q => hc9 (nI_le q (by decide))
      exact ⟨_, _, (by unfold spApp; rw [if_pos (Or.inr (by omega))]; exact ⟨rfl, h, frG_rf⟩), ev_throwW tX11_82_328_86 dX11_append_12 dX11_append_15 dX11_append_16 dX11_append_19 dX11_append_22 (by decide) rfl rfl⟩
def spErr (A : AS) : (Nat × Int32) × AS := match aE A with
  | none => ((1, 0), A)
  | some p => ((0, nI p), A)
def spRea (A : AS) (x : Int32) (b : Bool) : (Nat × Int32) × AS := match ixN 3 x with
  | none => ((1, 0), A)
  | some i => match (aK A)[i]? with
    | none => ((2, 0), A)
    | some z => ((0, if b = true then z.2 else z.1), A)
set_option maxRecDepth 4000 in
theorem fX11_reason_n {G : GX} {w : WS} {A : AS} (h : aX A w) {x : Int32} (hx : out_ 3 x) {b : Bool} : ∃ o w2, (pF ["java/lang/IllegalArgumentException", "java/util/NoSuchElementException"] (((1, 0), A)) w o w2) ∧ Big G 8 1 mX11_reason [.ref 0, .int x, .int (bI b)] w o w2 := by
  refine bx_of (P := pF ["java/lang/IllegalArgumentException", "java/util/NoSuchElementException"] (((1, 0), A)) w) (by decide +kernel) (Nat.le_of_ble_eq_true rfl) ?_
  show Ex G 8 1 mX11_reason 0 [some (.ref 0), some (.int x), some (.int (bI b))] [] w _
  refine ex_s (fun _ => ev_iload_n dX11_reason_0 rfl) ?_
  refine ex_bp (fun _ => ev_if_lt (tgt := 9) dX11_reason_1 (by decide)) (fun hc1 => ?_) (fun hc1 => ?_)
  · exact ⟨_, _, (by exact ⟨rfl, h, frG_rf⟩), ev_throwW tX11_82_357_86 dX11_reason_9 dX11_reason_12 dX11_reason_13 dX11_reason_16 dX11_reason_19 (by decide) rfl rfl⟩
  · refine ex_s (fun _ => ev_iload_n dX11_reason_4 rfl) ?_
    refine ex_s (fun _ => ev_iconst dX11_reason_5 ic3) ?_
    refine ex_s (fun _ => ev_icmp_lt_f (tgt := 20) dX11_reason_6 (by decide) (Int32.not_lt.mpr (hx.resolve_left hc1))) ?_
    exact ⟨_, _, (by exact ⟨rfl, h, frG_rf⟩), ev_throwW tX11_82_357_86 dX11_reason_9 dX11_reason_12 dX11_reason_13 dX11_reason_16 dX11_reason_19 (by decide) rfl rfl⟩
set_option maxRecDepth 4000 in
theorem fX11_reason_m {G : GX} {w : WS} {A : AS} (h : aX A w) {i : Nat} (hi : i < 3) {b : Bool} (hl : (aK A).length ≤ i) : ∃ o w2, (pF ["java/lang/IllegalArgumentException", "java/util/NoSuchElementException"] (((2, 0), A)) w o w2) ∧ Big G 8 1 mX11_reason [.ref 0, .int (nI i), .int (bI b)] w o w2 := by
  refine bx_of (P := pF ["java/lang/IllegalArgumentException", "java/util/NoSuchElementException"] (((2, 0), A)) w) (by decide +kernel) (Nat.le_of_ble_eq_true rfl) ?_
  show Ex G 8 1 mX11_reason 0 [some (.ref 0), some (.int (nI i)), some (.int (bI b))] [] w _
  refine ex_s (fun _ => ev_iload_n dX11_reason_0 rfl) ?_
  refine ex_s (fun _ => ev_if_lt_f (tgt := 9) dX11_reason_1 (by decide) (nI_pos (by omega))) ?_
  refine ex_s (fun _ => ev_iload_n dX11_reason_4 rfl) ?_
  refine ex_s (fun _ => ev_iconst dX11_reason_5 ic3) ?_
  refine ex_s (fun _ => ev_icmp_lt_t (tgt := 20) dX11_reason_6 (by decide) ((pk_lt' (by omega) (by decide)).mpr hi)) ?_
  refine ex_s (fun _ => ev_iload_n dX11_reason_20 rfl) ?_
  refine ex_s (fun _ => ev_aload_n dX11_reason_21 rfl) ?_
  refine ex_s (fun _ => ev_getR fX11_59 dX11_reason_22 (by decide) sh0 rfl) ?_
  refine ex_s (fun _ => ev_getI fX11_359 dX11_reason_25 (by decide) sh109 rfl) ?_
  refine ex_s (fun _ => ev_top h.2.2.2.2.2.1.1) ?_
  refine ex_s (fun _ => ev_icmp_lt_f (tgt := 42) dX11_reason_28 (by decide) (Int32.not_lt.mpr (nI_le hl (by omega)))) ?_
  exact ⟨_, _, (by exact ⟨rfl, h, frG_rf⟩), ev_throwWN tX11_176_360_180 dX11_reason_31 dX11_reason_34 dX11_reason_35 dX11_reason_38 dX11_reason_41 (by decide) rfl rfl⟩
set_option maxRecDepth 4000 in
theorem fX11_reason_y {G : GX} {w : WS} {A : AS} (h : aX A w) {i : Nat} (hi : i < 3) {b : Bool} {z : Int32 × Int32} (hz : (aK A)[i]? = some z) : ∃ o w2, (pF ["java/lang/IllegalArgumentException", "java/util/NoSuchElementException"] (((0, if b = true then z.2 else z.1), A)) w o w2) ∧ Big G 8 1 mX11_reason [.ref 0, .int (nI i), .int (bI b)] w o w2 := by
  obtain ⟨hk1, hk2, hk3⟩ := h.2.2.2.2.2.1
  have hlt : i < (aK A).length := (List.getElem?_eq_some_iff.mp hz).1
  refine bx_of (P := pF ["java/lang/IllegalArgumentException", "java/util/NoSuchElementException"] (((0, if b = true then z.2 else z.1), A)) w) (by decide +kernel) (Nat.le_of_ble_eq_true rfl) ?_
  show Ex G 8 1 mX11_reason 0 [some (.ref 0), some (.int (nI i)), some (.int (bI b))] [] w _
  refine ex_s (fun _ => ev_iload_n dX11_reason_0 rfl) ?_
  refine ex_s (fun _ => ev_if_lt_f (tgt := 9) dX11_reason_1 (by decide) (nI_pos (by omega))) ?_
  refine ex_s (fun _ => ev_iload_n dX11_reason_4 rfl) ?_
  refine ex_s (fun _ => ev_iconst dX11_reason_5 ic3) ?_
  refine ex_s (fun _ => ev_icmp_lt_t (tgt := 20) dX11_reason_6 (by decide) ((pk_lt' (by omega) (by decide)).mpr hi)) ?_
  refine ex_s (fun _ => ev_iload_n dX11_reason_20 rfl) ?_
  refine ex_s (fun _ => ev_aload_n dX11_reason_21 rfl) ?_
  refine ex_s (fun _ => ev_getR fX11_59 dX11_reason_22 (by decide) sh0 rfl) ?_
  refine ex_s (fun _ => ev_getI fX11_359 dX11_reason_25 (by decide) sh109 rfl) ?_
  refine ex_s (fun _ => ev_top h.2.2.2.2.2.1.1) ?_
  refine ex_s (fun _ => ev_icmp_lt_t (tgt := 42) dX11_reason_28 (by decide) ((pk_lt' (by omega) (by omega)).mpr hlt)) ?_
  refine ex_s (fun _ => ev_iload_n dX11_reason_42 rfl) ?_
  refine ex_b0 (fun _ => ev_ifb_eq (tgt := 58) dX11_reason_43 (by decide)) (fun hc43 => ?_) (fun hc43 => ?_)
  · refine ex_s (fun _ => ev_aload_n dX11_reason_58 rfl) ?_
    refine ex_s (fun _ => ev_getR fX11_59 dX11_reason_59 (by decide) sh0 rfl) ?_
    refine ex_s (fun _ => ev_getR fX11_365 dX11_reason_62 (by decide) sh109 rfl) ?_
    refine ex_s (fun _ => ev_iload_n dX11_reason_65 rfl) ?_
    refine ex_s (fun _ => ev_iaload dX11_reason_66 rfl (by omega) (by decide) sh110) ?_
    refine ex_s (fun _ => ev_top (hk3 i z hz).1) ?_
    exact ⟨_, _, (by rw [hc43]; exact ⟨rfl, h, frG_rf⟩), ev_iret dX11_reason_67 rfl rfl rfl rfl⟩
  · refine ex_s (fun _ => ev_aload_n dX11_reason_46 rfl) ?_
    refine ex_s (fun _ => ev_getR fX11_59 dX11_reason_47 (by decide) sh0 rfl) ?_
    refine ex_s (fun _ => ev_getR fX11_362 dX11_reason_50 (by decide) sh109 rfl) ?_
    refine ex_s (fun _ => ev_iload_n dX11_reason_53 rfl) ?_
    refine ex_s (fun _ => ev_iaload dX11_reason_54 rfl (by omega) (by decide) sh111) ?_
    refine ex_s (fun _ => ev_top (hk3 i z hz).2) ?_
    refine ex_s (fun _ => ev_goto (tgt := 67) dX11_reason_55 (by decide)) ?_
    exact ⟨_, _, (by rw [hc43]; exact ⟨rfl, h, frG_rf⟩), ev_iret dX11_reason_67 rfl rfl rfl rfl⟩
theorem fX11_reason {G : GX} {w : WS} {A : AS} (h : aX A w) (x : Int32) (b : Bool) : ∃ o w2, pF ["java/lang/IllegalArgumentException", "java/util/NoSuchElementException"] (spRea A x b) w o w2 ∧ Big G 8 1 mX11_reason [.ref 0, .int x, .int (bI b)] w o w2 := by
  unfold spRea
  rcases ixN_or 3 (by decide) x with ⟨h1, e1⟩ | ⟨i, h1, rfl, e1⟩
  · rw [e1]; exact fX11_reason_n h h1
  · rw [e1]
    dsimp only
    cases e2 : (aK A)[i]? with
    | none => exact fX11_reason_m h h1 (List.getElem?_eq_none_iff.mp e2)
    | some z => exact fX11_reason_y h h1 e2
/-- the memory taken back: the last chart of the history -/
def spUndo (A : AS) : (Nat × Int32) × AS := match (aH A).getLast? with
  | none => ((1, 0), A)
  | some T => ((0, nI ((aH A).length - 1)), mkA T (aV A) (aH A).dropLast (aN A) (aT A) (aL A) (aK A) (aE A))
def spSave (A : AS) : (Nat × Int32) × AS := ((0, nI (nR (aS A))), mkA (aS A) (some (aS A)) (aH A) (aN A) (aT A) (aL A) (aK A) (aE A))
def spRest (A : AS) : (Nat × Int32) × AS := match aV A with
  | none => ((1, 0), A)
  | some T => ((0, nI (nR T)), mkA T (aV A) [] (aN A) (aT A) (aL A) (aK A) (aE A))
set_option maxRecDepth 4000 in
theorem fX11_undo_n {G : GX} {w : WS} {A : AS} (h : aX A w) (hn : aH A = []) : ∃ o w2, (pF ["java/util/NoSuchElementException"] (((1, 0), A)) w o w2) ∧ Big G 8 1 mX11_undo [.ref 0] w o w2 := by
  obtain ⟨o1, ho6, ho1, hl, -⟩ := h.2.2.1
  refine bx_of (P := pF ["java/util/NoSuchElementException"] (((1, 0), A)) w) (by decide +kernel) (Nat.le_of_ble_eq_true rfl) ?_
  show Ex G 8 1 mX11_undo 0 [some (.ref 0)] [] w _
  refine ex_s (fun _ => ev_aload_n dX11_undo_0 rfl) ?_
  refine ex_s (fun _ => ev_getR fX11_25 dX11_undo_1 (by decide) sh0 rfl) ?_
  refine ex_s (fun _ => ev_getI fX11_323 dX11_undo_4 (by decide) sh100 rfl) ?_
  refine ex_s (fun _ => ev_top (hl.trans (by rw [hn]; rfl) : _ = nI 0)) ?_
  refine ex_s (fun _ => ev_if_ne_f (tgt := 21) dX11_undo_7 (by decide) rfl) ?_
  exact ⟨_, _, (by exact ⟨rfl, h, frG_rf⟩), ev_throwWN tX11_176_368_180 dX11_undo_10 dX11_undo_13 dX11_undo_14 dX11_undo_17 dX11_undo_20 (by decide) rfl rfl⟩
set_option maxRecDepth 4000 in
theorem fX11_undo_y {G : GX} {w : WS} {A : AS} (h : aX A w) {c : Nat} (hc : (aH A).length = c + 1) {T : ST} (hT : (aH A)[c]? = some T) : ∃ o w2, (pF ["java/util/NoSuchElementException"] (((0, nI ((aH A).length - 1)), mkA T (aV A) (aH A).dropLast (aN A) (aT A) (aL A) (aK A) (aE A))) w o w2) ∧ Big G 8 1 mX11_undo [.ref 0] w o w2 := by
  obtain ⟨g1, g2, ⟨o1, ho6, ho1, hl, h6, hh⟩, g4, g5, g6, g7, g8⟩ := id h
  have htb := hA_tb ho6 ho1 h6 hh hc
  obtain ⟨T2, hT2, hcm⟩ := htb.2
  rw [hT] at hT2
  cases hT2
  have hf : frG [(1, 11), (100, 100)] w (cs_ (cpW w 0 (3 + (o1 + c) % 6)) 100 (upd (w.1 100) 2 (nI c))) := by
    refine frG_cs (w := w) (w1 := cpW w 0 (3 + (o1 + c) % 6)) (R := [(1, 11), (100, 100)]) (k := 100) ⟨fun k hk => ?_, rfl⟩ (by decide) _
    have := of_decide_eq_true (List.all_eq_true.mp hk (1, 11) (List.mem_cons_self))
    exact cpW_n (by omega)
  refine bx_of (P := pF ["java/util/NoSuchElementException"] (((0, nI ((aH A).length - 1)), mkA T (aV A) (aH A).dropLast (aN A) (aT A) (aL A) (aK A) (aE A))) w) (by decide +kernel) (Nat.le_of_ble_eq_true rfl) ?_
  show Ex G 8 1 mX11_undo 0 [some (.ref 0)] [] w _
  refine ex_s (fun _ => ev_aload_n dX11_undo_0 rfl) ?_
  refine ex_s (fun _ => ev_getR fX11_25 dX11_undo_1 (by decide) sh0 rfl) ?_
  refine ex_s (fun _ => ev_getI fX11_323 dX11_undo_4 (by decide) sh100 rfl) ?_
  refine ex_s (fun _ => ev_top (hl.trans (by rw [hc]) : _ = nI (c + 1))) ?_
  refine ex_s (fun _ => ev_if_ne_t (tgt := 21) dX11_undo_7 (by decide) (fun q => absurd (nI_inj (a := c + 1) (b := 0) (by omega) (by decide) q) (by omega))) ?_
  refine ex_s (fun _ => ev_aload_n dX11_undo_21 rfl) ?_
  refine ex_s (fun _ => ev_getR fX11_25 dX11_undo_22 (by decide) sh0 rfl) ?_
  refine ex_s (fun _ => ev_aload_n dX11_undo_25 rfl) ?_
  refine ex_s (fun _ => ev_getR fX11_10 dX11_undo_26 (by decide) sh0 rfl) ?_
  refine ex_s (fun _ => ev_callV kX11_370 co100 (qX4_takeBack (c := c) ho1 ho6 (hl.trans (by rw [hc])) (by omega)) dX11_undo_29 rfl (by decide) (by decide) rfl) ?_
  refine ex_s (fun _ => ev_aload_n dX11_undo_32 rfl) ?_
  refine ex_s (fun _ => ev_getR fX11_25 dX11_undo_33 (by decide) sh0 rfl) ?_
  refine ex_s (fun _ => ev_getI fX11_323 dX11_undo_36 (by decide) sh100 rfl) ?_
  refine ex_s (fun _ => ev_top (y := nI c) rfl) ?_
  exact ⟨_, _, (by exact ⟨by rw [hc]; rfl, ⟨hcm, svG g2 hf (by decide) (by decide), htb.1, inG g4 hf (by decide), lnG g5 hf (by decide), kG g6 hf (by decide), by rw [frG_at hf (by decide)]; exact g7, g8⟩, frG_mo hf (by decide)⟩), ev_iret dX11_undo_39 rfl rfl rfl rfl⟩
theorem fX11_undo {G : GX} {w : WS} {A : AS} (h : aX A w) : ∃ o w2, pF ["java/util/NoSuchElementException"] (spUndo A) w o w2 ∧ Big G 8 1 mX11_undo [.ref 0] w o w2 := by
  unfold spUndo
  cases e : (aH A).getLast? with
  | none => exact fX11_undo_n h (List.getLast?_eq_none_iff.mp e)
  | some T =>
    have hne : aH A ≠ [] := fun q => by rw [q] at e; cases e
    have hp : 0 < (aH A).length := List.length_pos_iff.mpr hne
    rw [List.getLast?_eq_getElem?] at e
    exact fX11_undo_y h (c := (aH A).length - 1) (by omega) e
theorem sv_fr (w : WS) : frG [(0, 0), (23, 33)] w (cs_ (cpW w 2 0) 0 (upd ((cpW w 2 0).1 0) 3 (nI 1))) := by
  refine frG_cs (w := w) (w1 := cpW w 2 0) (R := [(0, 0), (23, 33)]) (k := 0) ⟨fun k hk => ?_, rfl⟩ (by decide) _
  have := of_decide_eq_true (List.all_eq_true.mp hk (23, 33) (by simp))
  exact cpW_n (by omega)
theorem re_fr (w : WS) : frG [(1, 11), (100, 100)] w (cs_ (cpW w 0 2) 100 (upd ((cpW w 0 2).1 100) 2 (nI 0))) := by
  refine frG_cs (w := w) (w1 := cpW w 0 2) (R := [(1, 11), (100, 100)]) (k := 100) ⟨fun k hk => ?_, rfl⟩ (by decide) _
  have := of_decide_eq_true (List.all_eq_true.mp hk (1, 11) (List.mem_cons_self))
  exact cpW_n (by omega)