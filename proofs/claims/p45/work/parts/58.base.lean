/-! what holds at the law's start -/
theorem tb_lw {w : Cond} (h : w ∈ tables_1) : w ∈ lw_tbl := List.mem_append_right _ h
theorem ncs_flat : ∀ q ∈ ncs_, Cond.not (.castable q.1 q.2) ∈ flatC (Cond.and given_1 narrow_1) := by decide +kernel
theorem pr_arr {args : Array Value} {s : State} {t : FieldType} (h : (Cond.arrayClass t).before args s = true) (hra : ∀ c, s.vm.findClass ("[" ++ t.toString) = some c → va_RA s c t) : ∃ c : ClassId, ArrOfT s c t ∧ va_RA s c t := by
  obtain ⟨c, k, comp, h1, h2, h3⟩ := Cond.arrayClass_spec h
  exact ⟨c, fun n z => ⟨fun k h => (by cases h), k, h2, comp, h3⟩, hra c h1⟩
theorem ch_arr {args : Array Value} {s : State} {C : String} (h : (Cond.arrayOver (.object C)).before args s = true) : ∃ c : ClassId, ArrOfT s c (.object C) ∧ va_RA s c (.object C) := by
  obtain ⟨comp, c, k, h1, -, h2, h3, h4⟩ := Cond.arrayOver_spec h
  exact ⟨c, fun n z => ⟨fun k h => (by cases h), k, h2, comp, h3⟩, ⟨k, comp, h2, h3, h1, h4⟩⟩
theorem st_ref {args : Array Value} {s : State} {own tx : String} {k : Nat} (h : (Cond.stringRef own k tx).before args s = true) : ∃ a, (Term.string own k).eval args s none [] s = some (.ref a) ∧ vk_R own k tx a s := by
  cases hc : s.vm.findClass own with
  | none => simp [Cond.before, Cond.holds, Cond.value, hc, State.resolvedAt?] at h
  | some cur =>
    obtain ⟨k', cf, i, a, h1, h2, h3, h4, h5, h6⟩ := Cond.stringRef_spec hc h
    exact ⟨a, h6, vk_R.of h h6⟩
def strT (i : Nat) : Term := .string "MapScalesLaw" ((sK.getD i (0, "")).1)
def strC (i : Nat) : List Cond := [Cond.exactly (strT i) "java/lang/String", Cond.eq (.field (strT i) "java/lang/String" "coder" "B") (.int 0), Cond.arrayOf (.field (strT i) "java/lang/String" "value" "[B") .byte, Cond.eq (.length (.field (strT i) "java/lang/String" "value" "[B")) (.int (Int32.ofNat (sN.getD i 0)))] ++ (List.range (sN.getD i 0)).map (fun j => Cond.eq (.elem (.field (strT i) "java/lang/String" "value" "[B") (.int (Int32.ofNat j))) (.int ((sB.getD i []).getD j 0)))
theorem fl_sub {L : List Cond} {a n : Nat} (h : ((flatC (Cond.and given_1 narrow_1)).drop a).take n = L) : ∀ c ∈ L, c ∈ flatC (Cond.and given_1 narrow_1) := fun c hc => by
  rw [← h] at hc
  exact List.mem_of_mem_drop (List.mem_of_mem_take hc)
theorem str_at0 : ((flatC (Cond.and given_1 narrow_1)).drop 435).take 4 = strC 0 := by decide +kernel
theorem str_at1 : ((flatC (Cond.and given_1 narrow_1)).drop 439).take 8 = strC 1 := by decide +kernel
theorem str_at2 : ((flatC (Cond.and given_1 narrow_1)).drop 958).take 8 = strC 2 := by decide +kernel
theorem str_at3 : ((flatC (Cond.and given_1 narrow_1)).drop 966).take 8 = strC 3 := by decide +kernel
theorem str_at4 : ((flatC (Cond.and given_1 narrow_1)).drop 1032).take 5 = strC 4 := by decide +kernel
theorem str_at5 : ((flatC (Cond.and given_1 narrow_1)).drop 1037).take 5 = strC 5 := by decide +kernel
theorem str_at6 : ((flatC (Cond.and given_1 narrow_1)).drop 1042).take 5 = strC 6 := by decide +kernel
theorem str_at7 : ((flatC (Cond.and given_1 narrow_1)).drop 1047).take 5 = strC 7 := by decide +kernel
theorem str_at8 : ((flatC (Cond.and given_1 narrow_1)).drop 1052).take 5 = strC 8 := by decide +kernel
theorem str_at9 : ((flatC (Cond.and given_1 narrow_1)).drop 1057).take 5 = strC 9 := by decide +kernel
theorem str_at10 : ((flatC (Cond.and given_1 narrow_1)).drop 1062).take 5 = strC 10 := by decide +kernel
theorem str_at11 : ((flatC (Cond.and given_1 narrow_1)).drop 1078).take 5 = strC 11 := by decide +kernel
theorem str_at12 : ((flatC (Cond.and given_1 narrow_1)).drop 1083).take 5 = strC 12 := by decide +kernel
theorem str_at13 : ((flatC (Cond.and given_1 narrow_1)).drop 1088).take 7 = strC 13 := by decide +kernel
theorem str_at14 : ((flatC (Cond.and given_1 narrow_1)).drop 1095).take 5 = strC 14 := by decide +kernel
theorem str_at15 : ((flatC (Cond.and given_1 narrow_1)).drop 1100).take 6 = strC 15 := by decide +kernel
theorem str_at16 : ((flatC (Cond.and given_1 narrow_1)).drop 1106).take 12 = strC 16 := by decide +kernel
theorem str_flat : ∀ i : Nat, i < 17 → ∀ c ∈ strC i, c ∈ flatC (Cond.and given_1 narrow_1) := by
  intro i hi
  rcases (by omega : i = 0 ∨ i = 1 ∨ i = 2 ∨ i = 3 ∨ i = 4 ∨ i = 5 ∨ i = 6 ∨ i = 7 ∨ i = 8 ∨ i = 9 ∨ i = 10 ∨ i = 11 ∨ i = 12 ∨ i = 13 ∨ i = 14 ∨ i = 15 ∨ i = 16) with rfl | rfl | rfl | rfl | rfl | rfl | rfl | rfl | rfl | rfl | rfl | rfl | rfl | rfl | rfl | rfl | rfl
  · exact fl_sub str_at0
  · exact fl_sub str_at1
  · exact fl_sub str_at2
  · exact fl_sub str_at3
  · exact fl_sub str_at4
  · exact fl_sub str_at5
  · exact fl_sub str_at6
  · exact fl_sub str_at7
  · exact fl_sub str_at8
  · exact fl_sub str_at9
  · exact fl_sub str_at10
  · exact fl_sub str_at11
  · exact fl_sub str_at12
  · exact fl_sub str_at13
  · exact fl_sub str_at14
  · exact fl_sub str_at15
  · exact fl_sub str_at16
theorem sN_lt : ∀ i : Fin 17, sN.getD i.val 0 < 100 := by decide +kernel
theorem st_1 {args : Array Value} {s : State} (hF : ∀ c, c ∈ flatC (Cond.and given_1 narrow_1) → c.before args s = true) (hA : ∀ a : Nat, a < s.heap.size → ¬ s.heap.size ≤ a) (i : Nat) (hi : i < 17) : ∃ q : Nat × Nat, (strT i).eval args s none [] s = some (.ref q.1) ∧ va_O "java/lang/String" q.1 (fun q => s.heap.size ≤ q) s s.heap ∧ va_OF "java/lang/String" "coder" "B" (.int 0) q.1 (fun q => s.heap.size ≤ q) s s.heap ∧ va_OF "java/lang/String" "value" "[B" (.ref q.2) q.1 (fun q => s.heap.size ≤ q) s s.heap ∧ va_T .byte q.2 (sN.getD i 0) (fun j => .int ((sB.getD i []).getD j 0)) (fun q => s.heap.size ≤ q) s s.heap := by
  have hf : ∀ c, c ∈ strC i → c.before args s = true := fun c hc => hF c (str_flat i hi c hc)
  have hl : sN.getD i 0 < 100 := sN_lt ⟨i, hi⟩
  have a1 : ∀ k : Nat, k < 1 → [sN.getD i 0].getD k 0 < 2 ^ 31 := fun k hk => by
    obtain rfl : k = 0 := by omega
    show sN.getD i 0 < 2 ^ 31
    omega
  have a5 : ∀ k : Nat, k < 1 → (Cond.eq (.length (.field (strT i) "java/lang/String" "value" "[B")) (.int (Int32.ofNat ([sN.getD i 0].getD k 0)))).before args s = true := fun k hk => by
    obtain rfl : k = 0 := by omega
    exact hf _ (List.mem_append_left _ (List.mem_of_getElem? (i := 3) rfl))
  have a6 : ∀ k : Nat, k < 1 → ∀ j : Nat, j < [sN.getD i 0].getD k 0 → (Cond.eq (.elem (.field (strT i) "java/lang/String" "value" "[B") (.int (Int32.ofNat j))) (.int (([sB.getD i []].getD k []).getD j 0))).before args s = true := fun k hk j hj => by
    obtain rfl : k = 0 := by omega
    exact hf _ (List.mem_append_right _ (List.mem_map.mpr ⟨j, List.mem_range.mpr hj, rfl⟩))
  obtain ⟨adK, adV, hS, hE⟩ := vk_Sof (args := args) (s := s) (N := 1) (tm := fun _ => strT i) (len := [sN.getD i 0]) (byt := [sB.getD i []]) (A := fun q => s.heap.size ≤ q) a1 (fun k hk => hf _ (List.mem_append_left _ (List.mem_of_getElem? (i := 0) rfl))) (fun k hk => hf _ (List.mem_append_left _ (List.mem_of_getElem? (i := 1) rfl))) (fun k hk => hf _ (List.mem_append_left _ (List.mem_of_getElem? (i := 2) rfl))) a5 a6 (fun k j hk hj hn => absurd (show k = j by omega) hn) hA
  exact ⟨(adK 0, adV 0), hE 0 (by decide), hS.1 0 (by decide)⟩
def dgC (nm : String) (f : Nat → Int32) : List Cond := [Cond.arrayOf (.static "java/lang/Integer" nm "[B") .byte, Cond.eq (.length (.static "java/lang/Integer" nm "[B")) (.int (Int32.ofNat 100))] ++ (List.range 100).map (fun j => Cond.eq (.elem (.static "java/lang/Integer" nm "[B") (.int (Int32.ofNat j))) (.int (f j)))
theorem dgO_at : ((flatC (Cond.and given_1 narrow_1)).drop 12).take 102 = dgC "DigitOnes" dgO := by decide +kernel
theorem dgT_at : ((flatC (Cond.and given_1 narrow_1)).drop 115).take 102 = dgC "DigitTens" dgT := by decide +kernel
theorem dgO_flat : ∀ c ∈ dgC "DigitOnes" dgO, c ∈ flatC (Cond.and given_1 narrow_1) := fl_sub dgO_at
theorem dgT_flat : ∀ c ∈ dgC "DigitTens" dgT, c ∈ flatC (Cond.and given_1 narrow_1) := fl_sub dgT_at
theorem st_dg {args : Array Value} {s : State} {nm : String} {f : Nat → Int32} (hf : ∀ c, c ∈ dgC nm f → c.before args s = true) (hl : (Cond.laysStatic "java/lang/Integer" nm "[B").before args s = true) (hini : (Cond.initialized "java/lang/Integer").before args s = true) (hA : ∀ a : Nat, a < s.heap.size → ¬ s.heap.size ≤ a) : ∃ d, vD_ nm f d (fun q => s.heap.size ≤ q) s s.heap := by
  obtain ⟨t, ht, hT⟩ := va_Tof (args := args) (s := s) (tm := .static "java/lang/Integer" nm "[B") (ty := .byte) (N := 100) (f := fun j => .int (f j)) (A := fun q => s.heap.size ≤ q) (by decide) (hf _ (List.mem_append_left _ (List.mem_of_getElem? (i := 0) rfl))) (va_eqt (hf _ (List.mem_append_left _ (List.mem_of_getElem? (i := 1) rfl)))) (fun j hj => va_eqt (hf _ (List.mem_append_right _ (List.mem_map.mpr ⟨j, List.mem_range.mpr hj, rfl⟩)))) hA
  exact ⟨t, va_Zof hl hini ht hA, hT⟩
set_option maxRecDepth 8000 in
theorem law_base {s : State} {b N : Nat} {xs : Nat → Int32} (l : Launch) (hts : ∀ w ∈ lw_tbl, w.before #[Value.ref b] s = true) (hX : va_X b N xs s s.heap) (hb : b < s.heap.size) (hg : (Cond.and given_1 narrow_1).before #[Value.ref b] s = true) : ∃ G : GX, gL G = l ∧ gZ G = s.heap.size ∧ gN G = N ∧ gX G = xs ∧ gA G 1000 = b ∧ bc_ G s s.heap ∧ ∀ w ∈ gd_, w.before #[Value.ref b] s = true := by
  have hF := flat_of_before _ hg
  have hgd : ∀ w ∈ gd_, w.before #[Value.ref b] s = true := fun w hw => by
    rcases gd_tbl hw with h | h
    · exact hts w h
    simp only [gx_, List.mem_cons, List.mem_nil_iff, or_false] at h
    rcases h with rfl | rfl | rfl | rfl
    · exact kU_sel (z := yJ5_isLatin1_aae02) (n := 4) rfl (hts _ (tb_lw (tc3 195 (by decide +kernel)))) ⟨by decide, by decide⟩ (hts _ (tb_lw (tc3 120 (by decide +kernel)))) (hts _ (tb_lw (tc3 166 (by decide +kernel)))) (hts _ (tb_lw (tc3 167 (by decide +kernel))))
    · exact kU_sel (z := yJ5_isLatin1_aae02) (n := 4) rfl (hts _ (tb_lw (tc3 195 (by decide +kernel)))) ⟨by decide, by decide⟩ (hts _ (tb_lw (tc3 120 (by decide +kernel)))) (hts _ (tb_lw (tc3 162 (by decide +kernel)))) (hts _ (tb_lw (tc3 163 (by decide +kernel))))
    · exact kU_sel (z := yJ5_isLatin1_aae02) (n := 4) rfl (hts _ (tb_lw (tc3 195 (by decide +kernel)))) ⟨by decide, by decide⟩ (hts _ (tb_lw (tc3 120 (by decide +kernel)))) (hts _ (tb_lw (tc3 233 (by decide +kernel)))) (hts _ (tb_lw (tc3 234 (by decide +kernel))))
    · exact kU_sel (z := yJ5_isLatin1_aae02) (n := 4) rfl (hts _ (tb_lw (tc3 195 (by decide +kernel)))) ⟨by decide, by decide⟩ (hts _ (tb_lw (tc3 120 (by decide +kernel)))) (hts _ (tb_lw (tc3 237 (by decide +kernel)))) (hts _ (tb_lw (tc3 238 (by decide +kernel))))
  have hA : ∀ a : Nat, a < s.heap.size → ¬ s.heap.size ≤ a := fun a h => Nat.not_le.mpr h
  have hD : ∀ c : Nat, ∃ d : ClassId × (Nat → Nat), ∀ q, vwCl[c]? = some q → u_Kn s q.1 q.2.1 q.2.2 d.1 d.2 := by
    intro c
    rcases (by omega : c = 0 ∨ c = 1 ∨ c = 2 ∨ c = 3 ∨ c = 4 ∨ c = 5 ∨ c = 6 ∨ c = 7 ∨ c = 8 ∨ c = 9 ∨ c = 10 ∨ 11 ≤ c) with rfl | rfl | rfl | rfl | rfl | rfl | rfl | rfl | rfl | rfl | rfl | h11
    · obtain ⟨cC, iS, hk⟩ := u_known (ws := gd_) (n := 4) hgd guJ0 (hts _ (tb_lw (tc2 125 (by decide +kernel))))
      exact ⟨(cC, iS), fun q hq => by cases hq; exact hk⟩
    · obtain ⟨cC, iS, hk⟩ := u_known (ws := gd_) (n := 4) hgd guJ4 (hts _ (tb_lw (tc3 120 (by decide +kernel))))
      exact ⟨(cC, iS), fun q hq => by cases hq; exact hk⟩
    · obtain ⟨cC, iS, hk⟩ := u_known (ws := gd_) (n := 6) hgd guJx00060 (hts _ (tb_lw (tc2 52 (by decide +kernel))))
      exact ⟨(cC, iS), fun q hq => by cases hq; exact hk⟩
    · obtain ⟨cC, iS, hk⟩ := u_known (ws := gd_) (n := 17) hgd guX1 (hts _ (tb_lw (tc1 47 (by decide +kernel))))
      exact ⟨(cC, iS), fun q hq => by cases hq; exact hk⟩
    · obtain ⟨cC, iS, hk⟩ := u_known (ws := gd_) (n := 5) hgd guX2 (hts _ (tb_lw (tc1 146 (by decide +kernel))))
      exact ⟨(cC, iS), fun q hq => by cases hq; exact hk⟩
    · obtain ⟨cC, iS, hk⟩ := u_known (ws := gd_) (n := 3) hgd guX4 (hts _ (tb_lw (tc1 126 (by decide +kernel))))
      exact ⟨(cC, iS), fun q hq => by cases hq; exact hk⟩
    · obtain ⟨cC, iS, hk⟩ := u_known (ws := gd_) (n := 2) hgd guX6 (hts _ (tb_lw (tc1 233 (by decide +kernel))))
      exact ⟨(cC, iS), fun q hq => by cases hq; exact hk⟩
    · obtain ⟨cC, iS, hk⟩ := u_known (ws := gd_) (n := 2) hgd guX7 (hts _ (tb_lw (tc1 182 (by decide +kernel))))
      exact ⟨(cC, iS), fun q hq => by cases hq; exact hk⟩
    · obtain ⟨cC, iS, hk⟩ := u_known (ws := gd_) (n := 3) hgd guX8 (hts _ (tb_lw (tc1 214 (by decide +kernel))))
      exact ⟨(cC, iS), fun q hq => by cases hq; exact hk⟩
    · obtain ⟨cC, iS, hk⟩ := u_known (ws := gd_) (n := 2) hgd guX9 (hts _ (tb_lw (tc1 188 (by decide +kernel))))
      exact ⟨(cC, iS), fun q hq => by cases hq; exact hk⟩
    · obtain ⟨cC, iS, hk⟩ := u_known (ws := gd_) (n := 12) hgd guX11 (hts _ (tb_lw (tc1 39 (by decide +kernel))))
      exact ⟨(cC, iS), fun q hq => by cases hq; exact hk⟩
    · exact ⟨(default, fun _ => 0), fun q hq => by rw [List.getElem?_eq_none h11] at hq; cases hq⟩
  obtain ⟨fD, hfD⟩ := Classical.axiomOfChoice hD
  have hT : ∀ t : Nat, ∃ c : ClassId, ∀ ty, ([.int, .char, .byte, .long, .int, .object "MapScales$Chart"] : List FieldType)[t]? = some ty → ArrOfT s c ty ∧ va_RA s c ty := by
    intro t
    rcases (by omega : t = 0 ∨ t = 1 ∨ t = 2 ∨ t = 3 ∨ t = 4 ∨ t = 5 ∨ 6 ≤ t) with rfl | rfl | rfl | rfl | rfl | rfl | h6
    · obtain ⟨c, hc⟩ := pr_arr (t := .int) (hts _ (tb_lw (tc1 124 (by decide +kernel)))) (fun c h => h)
      exact ⟨c, fun ty hty => by cases hty; exact hc⟩
    · obtain ⟨c, hc⟩ := pr_arr (t := .char) (hts _ (tb_lw (tc1 202 (by decide +kernel)))) (fun c h => h)
      exact ⟨c, fun ty hty => by cases hty; exact hc⟩
    · obtain ⟨c, hc⟩ := pr_arr (t := .byte) (hts _ (tb_lw (tc2 126 (by decide +kernel)))) (fun c h => h)
      exact ⟨c, fun ty hty => by cases hty; exact hc⟩
    · obtain ⟨c, hc⟩ := pr_arr (t := .long) (hts _ (tb_lw (tc7 96 (by decide +kernel)))) (fun c h => h)
      exact ⟨c, fun ty hty => by cases hty; exact hc⟩
    · obtain ⟨c, hc⟩ := pr_arr (t := .int) (hts _ (tb_lw (tc1 124 (by decide +kernel)))) (fun c h => h)
      exact ⟨c, fun ty hty => by cases hty; exact hc⟩
    · obtain ⟨c, hc⟩ := ch_arr (C := "MapScales$Chart") (hts _ (tb_lw (tc1 132 (by decide +kernel))))
      exact ⟨c, fun ty hty => by cases hty; exact hc⟩
    · exact ⟨default, fun q hq => by rw [List.getElem?_eq_none h6] at hq; cases hq⟩
  obtain ⟨fT, hfT⟩ := Classical.axiomOfChoice hT
  have hS0 : ∀ i : Nat, ∃ q : Nat × Nat, i < 17 → (strT i).eval #[Value.ref b] s none [] s = some (.ref q.1) ∧ va_O "java/lang/String" q.1 (fun q => s.heap.size ≤ q) s s.heap ∧ va_OF "java/lang/String" "coder" "B" (.int 0) q.1 (fun q => s.heap.size ≤ q) s s.heap ∧ va_OF "java/lang/String" "value" "[B" (.ref q.2) q.1 (fun q => s.heap.size ≤ q) s s.heap ∧ va_T .byte q.2 (sN.getD i 0) (fun j => .int ((sB.getD i []).getD j 0)) (fun q => s.heap.size ≤ q) s s.heap := by
    intro i
    by_cases hi : i < 17
    · obtain ⟨q, hq⟩ := st_1 hF hA i hi
      exact ⟨q, fun _ => hq⟩
    · exact ⟨(0, 0), fun h => absurd h hi⟩
  obtain ⟨ad, hSt⟩ := Classical.axiomOfChoice hS0
  obtain ⟨d1, hd1⟩ := st_dg (fun c hc => hF c (dgO_flat c hc)) (hts _ (tb_lw (tc4 119 (by decide +kernel)))) (hts _ (tb_lw (tc1 29 (by decide +kernel)))) hA
  obtain ⟨d2, hd2⟩ := st_dg (fun c hc => hF c (dgT_flat c hc)) (hts _ (tb_lw (tc4 121 (by decide +kernel)))) (hts _ (tb_lw (tc1 29 (by decide +kernel)))) hA
  have hZ : ∃ t4 : Nat, va_Z "jdk/internal/util/Preconditions" "SIOOBE_FORMATTER" "Ljava/util/function/BiFunction;" .null (fun q => s.heap.size ≤ q) s s.heap ∨ va_Z "jdk/internal/util/Preconditions" "SIOOBE_FORMATTER" "Ljava/util/function/BiFunction;" (.ref t4) (fun q => s.heap.size ≤ q) s s.heap := by
    rcases va_Zqof (hts _ (tb_lw (tc3 210 (by decide +kernel)))) (hts _ (tb_lw (tc1 26 (by decide +kernel)))) (hF (Cond.isRef (.static "jdk/internal/util/Preconditions" "SIOOBE_FORMATTER" "Ljava/util/function/BiFunction;")) (by decide +kernel)) hA with h | ⟨t, h⟩
    · exact ⟨0, Or.inl h⟩
    · exact ⟨t, Or.inr h⟩
  obtain ⟨t4, hZ⟩ := hZ
  refine ⟨(l, (fun c => (fD c).1, fun c => (fD c).2), fun k => if k = 1000 then b else if k = 4000 then t4 else if k = 4001 then d1 else if k = 4002 then d2 else if k < 3000 then (ad (k - 2000)).1 else (ad (k - 3000)).2, fT, s.heap.size, N, xs), rfl, rfl, rfl, rfl, rfl, ?_, hgd⟩
  have e2 : ∀ i, i < 17 → (if 2000 + i = 1000 then b else if 2000 + i = 4000 then t4 else if 2000 + i = 4001 then d1 else if 2000 + i = 4002 then d2 else if 2000 + i < 3000 then (ad (2000 + i - 2000)).1 else (ad (2000 + i - 3000)).2) = (ad i).1 := fun i hi => by
    rw [if_neg (by omega), if_neg (by omega), if_neg (by omega), if_neg (by omega), if_pos (by omega), Nat.add_sub_cancel_left]
  have e3 : ∀ i, i < 17 → (if 3000 + i = 1000 then b else if 3000 + i = 4000 then t4 else if 3000 + i = 4001 then d1 else if 3000 + i = 4002 then d2 else if 3000 + i < 3000 then (ad (3000 + i - 2000)).1 else (ad (3000 + i - 3000)).2) = (ad i).2 := fun i hi => by
    rw [if_neg (by omega), if_neg (by omega), if_neg (by omega), if_neg (by omega), if_neg (by omega), Nat.add_sub_cancel_left]
  refine ⟨⟨⟨fun c q hq => hfD c q hq, fun k q hq => ?_⟩, ⟨hX, Nat.le_refl _⟩, vx_Zqof (hts _ (tb_lw (tc2 69 (by decide +kernel)))) (hts _ (tb_lw (tc1 11 (by decide +kernel)))) (hF _ (by decide +kernel)) hA, vx_Zqof (hts _ (tb_lw (tc2 71 (by decide +kernel)))) (hts _ (tb_lw (tc1 11 (by decide +kernel)))) (hF _ (by decide +kernel)) hA, vS_cg (a1 := fun i => (ad i).1) (a2 := fun i => (ad i).2) (fun i hi => (hSt i hi).2) e2 e3, ⟨⟨hd1, hd2, va_Zof (hts _ (tb_lw (tc3 129 (by decide +kernel)))) (hts _ (tb_lw (tc1 16 (by decide +kernel)))) (va_eqi (hF _ (by decide +kernel))) hA⟩, ?_⟩, fun own k tx hm => ?_, fun i k tx hk => ?_, fun q hq => va_Nc.of (hF _ (ncs_flat q hq)), fun own k y h hm => va_Nw.of rfl (hts _ (tb_lw hm)), fun w hm hn => va_Nw.of (nw_tab hn) (hts _ (tb_lw hm))⟩, va_AO.of (hts _ (tb_lw (tc1 132 (by decide +kernel))))⟩
  · rcases (by omega : k = 0 ∨ k = 1 ∨ k = 2 ∨ k = 3 ∨ k = 4 ∨ k = 5 ∨ 6 ≤ k) with rfl | rfl | rfl | rfl | rfl | rfl | h6
    · cases hq; exact hfT 0 _ rfl
    · cases hq; exact hfT 1 _ rfl
    · cases hq; exact hfT 2 _ rfl
    · cases hq; exact hfT 3 _ rfl
    · cases hq; exact hfT 4 _ rfl
    · cases hq; exact hfT 5 _ rfl
    · rw [List.getElem?_eq_none h6] at hq; cases hq
  · rcases hZ with h | h
    · exact ⟨.null, Or.inl rfl, h⟩
    · exact ⟨.ref 4000, Or.inr rfl, h⟩
  · obtain ⟨a, -, ha⟩ := st_ref (hts _ (tb_lw hm))
    exact ⟨a, ha⟩
  · have hi : i < 17 := (List.getElem?_eq_some_iff.mp hk).1
    rcases (by omega : i = 0 ∨ i = 1 ∨ i = 2 ∨ i = 3 ∨ i = 4 ∨ i = 5 ∨ i = 6 ∨ i = 7 ∨ i = 8 ∨ i = 9 ∨ i = 10 ∨ i = 11 ∨ i = 12 ∨ i = 13 ∨ i = 14 ∨ i = 15 ∨ i = 16) with rfl | rfl | rfl | rfl | rfl | rfl | rfl | rfl | rfl | rfl | rfl | rfl | rfl | rfl | rfl | rfl | rfl
    · cases hk
      exact vk_R.of (hts _ (tb_lw (tc3 118 (by decide +kernel)))) (hSt 0 (by decide)).1
    · cases hk
      exact vk_R.of (hts _ (tb_lw (tc4 26 (by decide +kernel)))) (hSt 1 (by decide)).1
    · cases hk
      exact vk_R.of (hts _ (tb_lw (tc6 147 (by decide +kernel)))) (hSt 2 (by decide)).1
    · cases hk
      exact vk_R.of (hts _ (tb_lw (tc6 148 (by decide +kernel)))) (hSt 3 (by decide)).1
    · cases hk
      exact vk_R.of (hts _ (tb_lw (tc6 175 (by decide +kernel)))) (hSt 4 (by decide)).1
    · cases hk
      exact vk_R.of (hts _ (tb_lw (tc6 176 (by decide +kernel)))) (hSt 5 (by decide)).1
    · cases hk
      exact vk_R.of (hts _ (tb_lw (tc6 177 (by decide +kernel)))) (hSt 6 (by decide)).1
    · cases hk
      exact vk_R.of (hts _ (tb_lw (tc6 178 (by decide +kernel)))) (hSt 7 (by decide)).1
    · cases hk
      exact vk_R.of (hts _ (tb_lw (tc6 179 (by decide +kernel)))) (hSt 8 (by decide)).1
    · cases hk
      exact vk_R.of (hts _ (tb_lw (tc6 180 (by decide +kernel)))) (hSt 9 (by decide)).1
    · cases hk
      exact vk_R.of (hts _ (tb_lw (tc6 181 (by decide +kernel)))) (hSt 10 (by decide)).1
    · cases hk
      exact vk_R.of (hts _ (tb_lw (tc7 1 (by decide +kernel)))) (hSt 11 (by decide)).1
    · cases hk
      exact vk_R.of (hts _ (tb_lw (tc7 16 (by decide +kernel)))) (hSt 12 (by decide)).1
    · cases hk
      exact vk_R.of (hts _ (tb_lw (tc7 17 (by decide +kernel)))) (hSt 13 (by decide)).1
    · cases hk
      exact vk_R.of (hts _ (tb_lw (tc7 18 (by decide +kernel)))) (hSt 14 (by decide)).1
    · cases hk
      exact vk_R.of (hts _ (tb_lw (tc7 19 (by decide +kernel)))) (hSt 15 (by decide)).1
    · cases hk
      exact vk_R.of (hts _ (tb_lw (tc7 20 (by decide +kernel)))) (hSt 16 (by decide)).1
