/-! what holds at the law's start -/
theorem tb_lw {w : Cond} (h : w ∈ tables_1) : w ∈ lw_tbl := List.mem_append_right _ h
theorem ncs_flat : ∀ q ∈ ncs_, Cond.not (.castable q.1 q.2) ∈ flatC (Cond.and given_1 narrow_1) := by decide +kernel
theorem pr_arr {args : Array Value} {s : State} {t : FieldType} (h : (Cond.arrayClass t).before args s = true) (hra : ∀ c, s.vm.findClass ("[" ++ t.toString) = some c → va_RA s c t) : ∃ c : ClassId, ArrOfT s c t ∧ va_RA s c t := by
  obtain ⟨c, k, comp, h1, h2, h3⟩ := Cond.arrayClass_spec h
  exact ⟨c, fun n z => ⟨fun k h => (by cases h), k, h2, comp, h3⟩, hra c h1⟩
theorem ch_arr {args : Array Value} {s : State} {C : String} (h : (Cond.arrayOver (.object C)).before args s = true) : ∃ c : ClassId, ArrOfT s c (.object C) ∧ va_RA s c (.object C) := by
  obtain ⟨comp, c, k, h1, -, h2, h3, h4⟩ := Cond.arrayOver_spec h
  exact ⟨c, fun n z => ⟨fun k h => (by cases h), k, h2, comp, h3⟩, ⟨k, comp, h2, h3, h1, h4⟩⟩
theorem st_ref {args : Array Value} {s : State} {own tx : String} {k : Nat} (h : (Cond.stringRef own k tx).before args s = true) : ∃ a, (Term.string own k).eval args s none [] s = some (.ref a) ∧ vk_R own k tx a s := by
  cases hc : s.vm.findClass own with
  | none => simp [Cond.before, Cond.holds, Cond.value, hc, State.resolvedAt?] at h
  | some cur =>
    obtain ⟨k', cf, i, a, h1, h2, h3, h4, h5, h6⟩ := Cond.stringRef_spec hc h
    exact ⟨a, h6, vk_R.of h h6⟩
theorem vkS_cg {N : Nat} {len : List Nat} {byt : List (List Int32)} {a1 a2 b1 b2 : Nat → Nat} {A : Nat → Prop} {U : State} {H : Heap} (h : vk_S N len byt a1 a2 A U H) (h1 : ∀ i, i < N → b1 i = a1 i) (h2 : ∀ i, i < N → b2 i = a2 i) : vk_S N len byt b1 b2 A U H :=
  ⟨fun i hi => by rw [h1 i hi, h2 i hi]; exact h.1 i hi, fun i j hi hj e => h.2 i j hi hj (by rw [← h1 i hi, ← h1 j hj]; exact e)⟩
theorem st_ne {args : Array Value} {s : State} (hF : ∀ c, c ∈ flatC (Cond.and given_1 narrow_1) → c.before args s = true) (ha : (Cond.stringRef "MapScalesModel" 125 "nesw").before args s = true) (hb : (Cond.stringRef "MapScalesModel" 252 "psmrkdf").before args s = true) : (Cond.not (Cond.eq (Term.string "MapScalesModel" 125) (Term.string "MapScalesModel" 252))).before args s = true := by
  obtain ⟨a1, e1, -⟩ := st_ref ha
  obtain ⟨a2, e2, -⟩ := st_ref hb
  have l1 := va_eqt (hF (Cond.eq (.length (.field (.string "MapScalesModel" 125) "java/lang/String" "value" "[B")) (.int 4)) (by decide +kernel))
  have l2 := va_eqt (hF (Cond.eq (.length (.field (.string "MapScalesModel" 252) "java/lang/String" "value" "[B")) (.int 7)) (by decide +kernel))
  have hne : a1 ≠ a2 := by
    intro h
    subst h
    have e3 := e1
    have e4 := e2
    simp only [Term.eval] at e3 e4 l1 l2
    rw [e3] at l1
    rw [e4] at l2
    rw [l1] at l2
    cases l2
  simp [Cond.before, Cond.holds, Cond.value, e1, e2, hne]
theorem st_str {args : Array Value} {s : State} (hF : ∀ c, c ∈ flatC (Cond.and given_1 narrow_1) → c.before args s = true) (hn : (Cond.not (Cond.eq (Term.string "MapScalesModel" 125) (Term.string "MapScalesModel" 252))).before args s = true) : ∃ adK adV : Nat → Nat, vk_S 2 sN sB adK adV (fun q => s.heap.size ≤ q) s s.heap ∧ ∀ i : Nat, i < 2 → ((if i = 0 then Term.string "MapScalesModel" 125 else Term.string "MapScalesModel" 252 : Term)).eval args s none [] s = some (.ref (adK i)) := by
  refine vk_Sof (tm := fun i => if i = 0 then Term.string "MapScalesModel" 125 else Term.string "MapScalesModel" 252) (fun i hi => ?_) (fun i hi => ?_) (fun i hi => ?_) (fun i hi => ?_) (fun i hi => ?_) (fun i hi j hj => ?_) (fun i j hi hj hij => ?_) (fun a h1 h2 => absurd h1 (Nat.not_lt.mpr h2))
  · rcases (by omega : i = 0 ∨ i = 1) with rfl | rfl <;> decide
  · rcases (by omega : i = 0 ∨ i = 1) with rfl | rfl <;> exact hF _ (by decide +kernel)
  · rcases (by omega : i = 0 ∨ i = 1) with rfl | rfl <;> exact hF _ (by decide +kernel)
  · rcases (by omega : i = 0 ∨ i = 1) with rfl | rfl <;> exact hF _ (by decide +kernel)
  · rcases (by omega : i = 0 ∨ i = 1) with rfl | rfl <;> exact hF _ (by decide +kernel)
  · rcases (by omega : i = 0 ∨ i = 1) with rfl | rfl
    · have hj : j < 4 := hj
      rcases (by omega : j = 0 ∨ j = 1 ∨ j = 2 ∨ j = 3) with rfl | rfl | rfl | rfl <;> exact hF _ (by decide +kernel)
    · have hj : j < 7 := hj
      rcases (by omega : j = 0 ∨ j = 1 ∨ j = 2 ∨ j = 3 ∨ j = 4 ∨ j = 5 ∨ j = 6) with rfl | rfl | rfl | rfl | rfl | rfl | rfl <;> exact hF _ (by decide +kernel)
  · rcases (by omega : (i = 0 ∧ j = 1) ∨ (i = 1 ∧ j = 0)) with ⟨rfl, rfl⟩ | ⟨rfl, rfl⟩
    · exact Or.inl hn
    · exact Or.inr hn
theorem law_base {s : State} {b N : Nat} {xs : Nat → Int32} (l : Launch) (hts : ∀ w ∈ lw_tbl, w.before #[Value.ref b] s = true) (hX : va_X b N xs s s.heap) (hb : b < s.heap.size) (hg : (Cond.and given_1 narrow_1).before #[Value.ref b] s = true) : ∃ G : GX, gL G = l ∧ gZ G = s.heap.size ∧ gN G = N ∧ gX G = xs ∧ gA G 1000 = b ∧ bc_ G s s.heap := by
  have hF := flat_of_before _ hg
  have hgd : ∀ w ∈ gd_, w.before #[Value.ref b] s = true := fun w hw => hts w (gd_tbl hw)
  have hA : ∀ a : Nat, a < s.heap.size → ¬ s.heap.size ≤ a := fun a h => Nat.not_le.mpr h
  have hD : ∀ c : Nat, ∃ d : ClassId × (Nat → Nat), ∀ q, vwCl[c]? = some q → u_Kn s q.1 q.2.1 q.2.2 d.1 d.2 := by
    intro c
    rcases (by omega : c = 0 ∨ c = 1 ∨ c = 2 ∨ c = 3 ∨ c = 4 ∨ c = 5 ∨ c = 6 ∨ c = 7 ∨ c = 8 ∨ c = 9 ∨ c = 10 ∨ 11 ≤ c) with rfl | rfl | rfl | rfl | rfl | rfl | rfl | rfl | rfl | rfl | rfl | h11
    · obtain ⟨cC, iS, hk⟩ := u_known (ws := gd_) (n := 4) hgd guJ0 (hts _ (tb_lw (tc3 48 (by decide +kernel))))
      exact ⟨(cC, iS), fun q hq => by cases hq; exact hk⟩
    · obtain ⟨cC, iS, hk⟩ := u_known (ws := gd_) (n := 6) hgd guJx00060 (hts _ (tb_lw (tc2 215 (by decide +kernel))))
      exact ⟨(cC, iS), fun q hq => by cases hq; exact hk⟩
    · obtain ⟨cC, iS, hk⟩ := u_known (ws := gd_) (n := 17) hgd guX1 (hts _ (tb_lw (tc1 42 (by decide +kernel))))
      exact ⟨(cC, iS), fun q hq => by cases hq; exact hk⟩
    · obtain ⟨cC, iS, hk⟩ := u_known (ws := gd_) (n := 5) hgd guX2 (hts _ (tb_lw (tc1 141 (by decide +kernel))))
      exact ⟨(cC, iS), fun q hq => by cases hq; exact hk⟩
    · obtain ⟨cC, iS, hk⟩ := u_known (ws := gd_) (n := 3) hgd guX4 (hts _ (tb_lw (tc1 121 (by decide +kernel))))
      exact ⟨(cC, iS), fun q hq => by cases hq; exact hk⟩
    · obtain ⟨cC, iS, hk⟩ := u_known (ws := gd_) (n := 2) hgd guX6 (hts _ (tb_lw (tc1 228 (by decide +kernel))))
      exact ⟨(cC, iS), fun q hq => by cases hq; exact hk⟩
    · obtain ⟨cC, iS, hk⟩ := u_known (ws := gd_) (n := 2) hgd guX7 (hts _ (tb_lw (tc1 177 (by decide +kernel))))
      exact ⟨(cC, iS), fun q hq => by cases hq; exact hk⟩
    · obtain ⟨cC, iS, hk⟩ := u_known (ws := gd_) (n := 3) hgd guX8 (hts _ (tb_lw (tc1 209 (by decide +kernel))))
      exact ⟨(cC, iS), fun q hq => by cases hq; exact hk⟩
    · obtain ⟨cC, iS, hk⟩ := u_known (ws := gd_) (n := 2) hgd guX9 (hts _ (tb_lw (tc1 183 (by decide +kernel))))
      exact ⟨(cC, iS), fun q hq => by cases hq; exact hk⟩
    · obtain ⟨cC, iS, hk⟩ := u_known (ws := gd_) (n := 12) hgd guX11 (hts _ (tb_lw (tc1 34 (by decide +kernel))))
      exact ⟨(cC, iS), fun q hq => by cases hq; exact hk⟩
    · obtain ⟨cC, iS, hk⟩ := u_known (ws := gd_) (n := 19) hgd guX12 (hts _ (tb_lw (tc5 230 (by decide +kernel))))
      exact ⟨(cC, iS), fun q hq => by cases hq; exact hk⟩
    · exact ⟨(default, fun _ => 0), fun q hq => by rw [List.getElem?_eq_none h11] at hq; cases hq⟩
  obtain ⟨fD, hfD⟩ := Classical.axiomOfChoice hD
  have hT : ∀ t : Nat, ∃ c : ClassId, ∀ ty, ([.int, .char, .boolean, .long, .double, .object "MapScales$Chart"] : List FieldType)[t]? = some ty → ArrOfT s c ty ∧ va_RA s c ty := by
    intro t
    rcases (by omega : t = 0 ∨ t = 1 ∨ t = 2 ∨ t = 3 ∨ t = 4 ∨ t = 5 ∨ 6 ≤ t) with rfl | rfl | rfl | rfl | rfl | rfl | h6
    · obtain ⟨c, hc⟩ := pr_arr (t := .int) (hts _ (tb_lw (tc1 119 (by decide +kernel)))) (fun c h => h)
      exact ⟨c, fun ty hty => by cases hty; exact hc⟩
    · obtain ⟨c, hc⟩ := pr_arr (t := .char) (hts _ (tb_lw (tc1 197 (by decide +kernel)))) (fun c h => h)
      exact ⟨c, fun ty hty => by cases hty; exact hc⟩
    · obtain ⟨c, hc⟩ := pr_arr (t := .boolean) (hts _ (tb_lw (tc6 53 (by decide +kernel)))) (fun c h => h)
      exact ⟨c, fun ty hty => by cases hty; exact hc⟩
    · obtain ⟨c, hc⟩ := pr_arr (t := .long) (hts _ (tb_lw (tc8 45 (by decide +kernel)))) (fun c h => h)
      exact ⟨c, fun ty hty => by cases hty; exact hc⟩
    · obtain ⟨c, hc⟩ := pr_arr (t := .double) (hts _ (tb_lw (tc8 46 (by decide +kernel)))) (fun c h => h)
      exact ⟨c, fun ty hty => by cases hty; exact hc⟩
    · obtain ⟨c, hc⟩ := ch_arr (C := "MapScales$Chart") (hts _ (tb_lw (tc1 127 (by decide +kernel))))
      exact ⟨c, fun ty hty => by cases hty; exact hc⟩
    · exact ⟨default, fun q hq => by rw [List.getElem?_eq_none h6] at hq; cases hq⟩
  obtain ⟨fT, hfT⟩ := Classical.axiomOfChoice hT
  obtain ⟨adK, adV, hS, hSe⟩ := st_str hF (st_ne hF (hts _ (tb_lw (tc6 155 (by decide +kernel)))) (hts _ (tb_lw (tc8 4 (by decide +kernel)))))
  have hZ : ∃ t4 : Nat, va_Z "jdk/internal/util/Preconditions" "SIOOBE_FORMATTER" "Ljava/util/function/BiFunction;" .null (fun q => s.heap.size ≤ q) s s.heap ∨ va_Z "jdk/internal/util/Preconditions" "SIOOBE_FORMATTER" "Ljava/util/function/BiFunction;" (.ref t4) (fun q => s.heap.size ≤ q) s s.heap := by
    rcases va_Zqof (hts _ (tb_lw (tc6 208 (by decide +kernel)))) (hts _ (tb_lw (tc1 25 (by decide +kernel)))) (hF (Cond.isRef (.static "jdk/internal/util/Preconditions" "SIOOBE_FORMATTER" "Ljava/util/function/BiFunction;")) (by decide +kernel)) hA with h | ⟨t, h⟩
    · exact ⟨0, Or.inl h⟩
    · exact ⟨t, Or.inr h⟩
  obtain ⟨t4, hZ⟩ := hZ
  refine ⟨(l, (fun c => (fD c).1, fun c => (fD c).2), fun k => if k = 1000 then b else if k = 4000 then t4 else if k < 3000 then adK (k - 2000) else adV (k - 3000), fT, s.heap.size, N, xs), rfl, rfl, rfl, rfl, rfl, ?_⟩
  refine ⟨⟨⟨fun c q hq => hfD c q hq, fun k q hq => ?_⟩, hX, vx_Zqof (hts _ (tb_lw (tc2 232 (by decide +kernel)))) (hts _ (tb_lw (tc1 11 (by decide +kernel)))) (hF _ (by decide +kernel)) hA, vx_Zqof (hts _ (tb_lw (tc2 234 (by decide +kernel)))) (hts _ (tb_lw (tc1 11 (by decide +kernel)))) (hF _ (by decide +kernel)) hA, vkS_cg hS (fun i hi => ?_) (fun i hi => ?_), ⟨va_Zof (hts _ (tb_lw (tc6 169 (by decide +kernel)))) (hts _ (tb_lw (tc1 16 (by decide +kernel)))) (va_eqi (hF _ (by decide +kernel))) hA, ?_⟩, fun own k tx hm => ?_, ⟨?_, ?_⟩, fun q hq => va_Nc.of (hF _ (ncs_flat q hq)), fun own k y h hm => va_Nw.of rfl (hts _ (tb_lw hm)), fun w hm hn => va_Nw.of (nw_tab hn) (hts _ (tb_lw hm))⟩, va_AO.of (hts _ (tb_lw (tc1 127 (by decide +kernel))))⟩
  · rcases (by omega : k = 0 ∨ k = 1 ∨ k = 2 ∨ k = 3 ∨ k = 4 ∨ k = 5 ∨ 6 ≤ k) with rfl | rfl | rfl | rfl | rfl | rfl | h6
    · cases hq; exact hfT 0 _ rfl
    · cases hq; exact hfT 1 _ rfl
    · cases hq; exact hfT 2 _ rfl
    · cases hq; exact hfT 3 _ rfl
    · cases hq; exact hfT 4 _ rfl
    · cases hq; exact hfT 5 _ rfl
    · rw [List.getElem?_eq_none h6] at hq; cases hq
  · rcases (by omega : i = 0 ∨ i = 1) with rfl | rfl <;> rfl
  · rcases (by omega : i = 0 ∨ i = 1) with rfl | rfl <;> rfl
  · rcases hZ with h | h
    · exact ⟨.null, Or.inl rfl, h⟩
    · exact ⟨.ref 4000, Or.inr rfl, h⟩
  · obtain ⟨a, -, ha⟩ := st_ref (hts _ (tb_lw hm))
    exact ⟨a, ha⟩
  · exact vk_R.of (hts _ (tb_lw (tc6 155 (by decide +kernel)))) (hSe 0 (by decide))
  · exact vk_R.of (hts _ (tb_lw (tc8 4 (by decide +kernel)))) (hSe 1 (by decide))
