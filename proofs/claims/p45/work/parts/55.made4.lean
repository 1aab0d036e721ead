/-! constructors: charts, history, the class, the reference -/
theorem mid_app2 {α : Type} {pre r l : List α} {x : α} : (pre ++ x :: r) ++ l = pre ++ x :: (r ++ l) := by simp
def chL (G : GX) (a : Nat → Nat) : va_W := [(a 0, .inr (3, [.ref (a 1), .ref (a 2), .ref (a 3), .ref (a 4), .ref (a 5), .ref (a 6), .ref (a 7), .ref (a 8), .ref (a 9), .ref (a 10), .int 0, .int 0, .int (nI 1), .int 0, .int 0, .int 0, .int 0])),
  (a 1, .inl (gC G 0, 64, .inl (fun j => if j < 64 then -1 else 0))), (a 2, .inl (gC G 0, 4, .inl (fun j => if j < 4 then nI 100 else 0))), (a 3, .inl (gC G 0, 4, .inl (fun _ => 0))), (a 4, .inl (gC G 0, 4, .inl (fun _ => 0))), (a 5, .inl (gC G 0, 52, .inl (fun _ => 0))), (a 6, .inl (gC G 0, 4, .inl (fun _ => 0))), (a 7, .inl (gC G 0, 4, .inl (fun _ => 0))), (a 8, .inl (gC G 0, 5, .inl (fun _ => 0))), (a 9, .inl (gC G 0, 5, .inl (fun _ => 0))), (a 10, .inl (gC G 0, 5, .inl (fun _ => 0)))]
set_option maxRecDepth 4000 in
theorem kX1_init {G : GX} (hG : gA G 1000 < gZ G) {pre : va_W} {q : Nat} : BigC G 1 170 mX1_init [.ref q] (pre ++ [(q, .inr (3, df_X1))]) (fun ws' => ∃ a : Nat → Nat, a 0 = q ∧ ws' = pre ++ chL G a) := by
  refine kc_of (by decide +kernel) rfl (Nat.le_of_ble_eq_true rfl) ?_
  show Ec G 1 170 mX1_init 0 [(0, .ref q)] [] (pre ++ (q, .inr (3, df_X1)) :: []) _
  refine kc_aload dX1_init_0 0 rfl ?_
  refine kc_obj ob_X1 oi_2 oi_3 dX1_init_1 rfl ?_
  refine kc_aload dX1_init_4 0 rfl ?_
  refine kc_bipush (v := nI 64) dX1_init_5 (by decide) ?_
  refine kc_newa (at_ := .int) (t := 0) (zz := .inl (fun _ => 0)) ac_i rfl rfl ra_i (fun _ => rfl) (by decide) (by decide) (by decide) dX1_init_7 (fun a0 => ?_)
  refine kc_w mid_app ?_
  refine kc_putF fX1_9 rfl (fun C T N h => by cases h; rfl) dX1_init_9 rfl rfl (Nat.le_of_ble_eq_true rfl) ?_
  refine kc_aload dX1_init_12 0 rfl ?_
  refine kc_iconst dX1_init_13 ic4 ?_
  refine kc_newa (at_ := .int) (t := 0) (zz := .inl (fun _ => 0)) ac_i rfl rfl ra_i (fun _ => rfl) (by decide) (by decide) (by decide) dX1_init_14 (fun a1 => ?_)
  refine kc_w mid_app ?_
  refine kc_putF fX1_15 rfl (fun C T N h => by cases h; rfl) dX1_init_16 rfl rfl (Nat.le_of_ble_eq_true rfl) ?_
  refine kc_aload dX1_init_19 0 rfl ?_
  refine kc_iconst dX1_init_20 ic4 ?_
  refine kc_newa (at_ := .int) (t := 0) (zz := .inl (fun _ => 0)) ac_i rfl rfl ra_i (fun _ => rfl) (by decide) (by decide) (by decide) dX1_init_21 (fun a2 => ?_)
  refine kc_w mid_app ?_
  refine kc_putF fX1_18 rfl (fun C T N h => by cases h; rfl) dX1_init_23 rfl rfl (Nat.le_of_ble_eq_true rfl) ?_
  refine kc_aload dX1_init_26 0 rfl ?_
  refine kc_iconst dX1_init_27 ic4 ?_
  refine kc_newa (at_ := .int) (t := 0) (zz := .inl (fun _ => 0)) ac_i rfl rfl ra_i (fun _ => rfl) (by decide) (by decide) (by decide) dX1_init_28 (fun a3 => ?_)
  refine kc_w mid_app ?_
  refine kc_putF fX1_21 rfl (fun C T N h => by cases h; rfl) dX1_init_30 rfl rfl (Nat.le_of_ble_eq_true rfl) ?_
  refine kc_aload dX1_init_33 0 rfl ?_
  refine kc_bipush (v := nI 52) dX1_init_34 (by decide) ?_
  refine kc_newa (at_ := .int) (t := 0) (zz := .inl (fun _ => 0)) ac_i rfl rfl ra_i (fun _ => rfl) (by decide) (by decide) (by decide) dX1_init_36 (fun a4 => ?_)
  refine kc_w mid_app ?_
  refine kc_putF fX1_24 rfl (fun C T N h => by cases h; rfl) dX1_init_38 rfl rfl (Nat.le_of_ble_eq_true rfl) ?_
  refine kc_aload dX1_init_41 0 rfl ?_
  refine kc_iconst dX1_init_42 ic4 ?_
  refine kc_newa (at_ := .int) (t := 0) (zz := .inl (fun _ => 0)) ac_i rfl rfl ra_i (fun _ => rfl) (by decide) (by decide) (by decide) dX1_init_43 (fun a5 => ?_)
  refine kc_w mid_app ?_
  refine kc_putF fX1_27 rfl (fun C T N h => by cases h; rfl) dX1_init_45 rfl rfl (Nat.le_of_ble_eq_true rfl) ?_
  refine kc_aload dX1_init_48 0 rfl ?_
  refine kc_iconst dX1_init_49 ic4 ?_
  refine kc_newa (at_ := .int) (t := 0) (zz := .inl (fun _ => 0)) ac_i rfl rfl ra_i (fun _ => rfl) (by decide) (by decide) (by decide) dX1_init_50 (fun a6 => ?_)
  refine kc_w mid_app ?_
  refine kc_putF fX1_30 rfl (fun C T N h => by cases h; rfl) dX1_init_52 rfl rfl (Nat.le_of_ble_eq_true rfl) ?_
  refine kc_aload dX1_init_55 0 rfl ?_
  refine kc_iconst dX1_init_56 ic5 ?_
  refine kc_newa (at_ := .int) (t := 0) (zz := .inl (fun _ => 0)) ac_i rfl rfl ra_i (fun _ => rfl) (by decide) (by decide) (by decide) dX1_init_57 (fun a7 => ?_)
  refine kc_w mid_app ?_
  refine kc_putF fX1_33 rfl (fun C T N h => by cases h; rfl) dX1_init_59 rfl rfl (Nat.le_of_ble_eq_true rfl) ?_
  refine kc_aload dX1_init_62 0 rfl ?_
  refine kc_iconst dX1_init_63 ic5 ?_
  refine kc_newa (at_ := .int) (t := 0) (zz := .inl (fun _ => 0)) ac_i rfl rfl ra_i (fun _ => rfl) (by decide) (by decide) (by decide) dX1_init_64 (fun a8 => ?_)
  refine kc_w mid_app ?_
  refine kc_putF fX1_36 rfl (fun C T N h => by cases h; rfl) dX1_init_66 rfl rfl (Nat.le_of_ble_eq_true rfl) ?_
  refine kc_aload dX1_init_69 0 rfl ?_
  refine kc_iconst dX1_init_70 ic5 ?_
  refine kc_newa (at_ := .int) (t := 0) (zz := .inl (fun _ => 0)) ac_i rfl rfl ra_i (fun _ => rfl) (by decide) (by decide) (by decide) dX1_init_71 (fun a9 => ?_)
  refine kc_w mid_app ?_
  refine kc_putF fX1_39 rfl (fun C T N h => by cases h; rfl) dX1_init_73 rfl rfl (Nat.le_of_ble_eq_true rfl) ?_
  refine kc_aload dX1_init_76 0 rfl ?_
  refine kc_iconst dX1_init_77 ic1 ?_
  refine kc_put fX1_42 dX1_init_78 rfl rfl (Nat.le_of_ble_eq_true rfl) ?_
  refine kc_aload dX1_init_81 0 rfl ?_
  refine kc_get fX1_9 dX1_init_82 (v := .ref a0) rfl ?_
  refine kc_iconst dX1_init_85 icm1 ?_
  refine kc_call (as := [.ref a0, .int (-1)]) (st := []) kX1_46 hG (kJ7_fill (k := pre.length + 1 + 0) (a := a0) (n := 64) (f := fun _ => 0) (mid_in.trans rfl) (by decide)) dX1_init_86 rfl (by decide) (by decide) rfl (fun ws0 hw0 => ?_)
  refine kc_w (hw0.trans mid_ins) ?_
  refine kc_aload dX1_init_89 0 rfl ?_
  refine kc_get fX1_15 dX1_init_90 (v := .ref a1) rfl ?_
  refine kc_bipush (v := nI 100) dX1_init_93 (by decide) ?_
  refine kc_call (as := [.ref a1, .int (nI 100)]) (st := []) kX1_46 hG (kJ7_fill (k := pre.length + 1 + 1) (a := a1) (n := 4) (f := fun _ => 0) (mid_in.trans rfl) (by decide)) dX1_init_95 rfl (by decide) (by decide) rfl (fun ws1 hw1 => ?_)
  refine kc_w (hw1.trans mid_ins) ?_
  exact kc_ret dX1_init_98 rfl ⟨fun k => [q, a0, a1, a2, a3, a4, a5, a6, a7, a8, a9].getD k 0, rfl, rfl⟩
def hiL (G : GX) (q a0 : Nat) (f : Nat → Option Nat) (c : Nat → Nat → Nat) : va_W := (q, .inr (5, [.ref a0, .int 0, .int 0])) :: (a0, .inl (gC G 5, 6, .inr (.inr (.inr (.inr f))))) :: (chL G (c 0) ++ (chL G (c 1) ++ (chL G (c 2) ++ (chL G (c 3) ++ (chL G (c 4) ++ chL G (c 5))))))
set_option maxRecDepth 8000 in
theorem kX4_init {G : GX} (hG : gA G 1000 < gZ G) {pre : va_W} {q : Nat} : BigC G 2 1100 mX4_init [.ref q] (pre ++ [(q, .inr (5, df_X4))]) (fun ws' => ∃ a0 f c, ws' = pre ++ hiL G q a0 f c ∧ ∀ j, j < 6 → f j = some (c j 0)) := by
  refine kc_of (by decide +kernel) rfl (Nat.le_of_ble_eq_true rfl) ?_
  show Ec G 2 1100 mX4_init 0 [(0, .ref q)] [] (pre ++ (q, .inr (5, df_X4)) :: []) _
  refine kc_aload dX4_init_0 0 rfl ?_
  refine kc_obj ob_X4 oi_2 oi_3 dX4_init_1 rfl ?_
  refine kc_aload dX4_init_4 0 rfl ?_
  refine kc_bipush (v := nI 6) dX4_init_5 (by decide) ?_
  refine kc_newq (n := 6) (t := 5) (gc1 131 (by decide +kernel) rfl) rfl (by decide) (by decide) dX4_init_7 (fun a0 => ?_)
  refine kc_w mid_app ?_
  refine kc_putF fX4_11 rfl (fun C T N h => by cases h; rfl) dX4_init_10 rfl rfl (Nat.le_of_ble_eq_true rfl) ?_
  refine kc_iconst dX4_init_13 ic0 ?_
  refine kc_ist (k := 1) dX4_init_14 (by decide) rfl ?_
  show Ec G 2 _ mX4_init 15 [(1, .int (nI 0)), (0, .ref q)] [] _ _
  refine kc_iload dX4_init_15 0 rfl ?_
  refine kc_bipush (v := nI 6) dX4_init_16 (by decide) ?_
  refine kc_ge_f (tgt := 40) dX4_init_18 (by decide) (by decide) ?_
  refine kc_aload dX4_init_21 1 rfl ?_
  refine kc_get fX4_11 dX4_init_22 (v := .ref a0) rfl ?_
  refine kc_iload dX4_init_25 0 rfl ?_
  refine kc_new mk_X4_9 (by decide) dX4_init_26 (fun b0 => ?_)
  refine kc_dup dX4_init_29 ?_
  refine kc_init (as := []) (st := [.ref b0, .int (nI 0), .ref a0]) il_X4_17 hG (kX1_init hG) dX4_init_30 rfl (by decide) (by decide) rfl (fun ws0 hw0 => ?_)
  obtain ⟨c0, rfl, hc0⟩ := hw0
  refine kc_w (hc0.trans mid_app2) ?_
  refine kc_aast (k := pre.length + 1 + 0) (t := 5) (qk := pre.length + 1 + 1) (ci := 3) (n := 6) (j := 0) (mid_in.trans rfl) rfl (mid_in.trans rfl) rfl rfl (by decide) (by decide) dX4_init_33 ?_
  refine kc_w mid_ins ?_
  refine kc_iinc (k := 0) (v := nI 1) dX4_init_34 rfl (by decide) (by decide) rfl ?_
  refine kc_goto (tgt := 15) dX4_init_37 (by decide) ?_
  show Ec G 2 _ mX4_init 15 [(1, .int (nI 1)), (0, .ref q)] [] _ _
  refine kc_iload dX4_init_15 0 rfl ?_
  refine kc_bipush (v := nI 6) dX4_init_16 (by decide) ?_
  refine kc_ge_f (tgt := 40) dX4_init_18 (by decide) (by decide) ?_
  refine kc_aload dX4_init_21 1 rfl ?_
  refine kc_get fX4_11 dX4_init_22 (v := .ref a0) rfl ?_
  refine kc_iload dX4_init_25 0 rfl ?_
  refine kc_new mk_X4_9 (by decide) dX4_init_26 (fun b1 => ?_)
  refine kc_dup dX4_init_29 ?_
  refine kc_init (as := []) (st := [.ref b1, .int (nI 1), .ref a0]) il_X4_17 hG (kX1_init hG) dX4_init_30 rfl (by decide) (by decide) rfl (fun ws1 hw1 => ?_)
  obtain ⟨c1, rfl, hc1⟩ := hw1
  refine kc_w (hc1.trans mid_app2) ?_
  refine kc_aast (k := pre.length + 1 + 0) (t := 5) (qk := pre.length + 1 + 12) (ci := 3) (n := 6) (j := 1) (mid_in.trans rfl) rfl (mid_in.trans rfl) rfl rfl (by decide) (by decide) dX4_init_33 ?_
  refine kc_w mid_ins ?_
  refine kc_iinc (k := 0) (v := nI 2) dX4_init_34 rfl (by decide) (by decide) rfl ?_
  refine kc_goto (tgt := 15) dX4_init_37 (by decide) ?_
  show Ec G 2 _ mX4_init 15 [(1, .int (nI 2)), (0, .ref q)] [] _ _
  refine kc_iload dX4_init_15 0 rfl ?_
  refine kc_bipush (v := nI 6) dX4_init_16 (by decide) ?_
  refine kc_ge_f (tgt := 40) dX4_init_18 (by decide) (by decide) ?_
  refine kc_aload dX4_init_21 1 rfl ?_
  refine kc_get fX4_11 dX4_init_22 (v := .ref a0) rfl ?_
  refine kc_iload dX4_init_25 0 rfl ?_
  refine kc_new mk_X4_9 (by decide) dX4_init_26 (fun b2 => ?_)
  refine kc_dup dX4_init_29 ?_
  refine kc_init (as := []) (st := [.ref b2, .int (nI 2), .ref a0]) il_X4_17 hG (kX1_init hG) dX4_init_30 rfl (by decide) (by decide) rfl (fun ws2 hw2 => ?_)
  obtain ⟨c2, rfl, hc2⟩ := hw2
  refine kc_w (hc2.trans mid_app2) ?_
  refine kc_aast (k := pre.length + 1 + 0) (t := 5) (qk := pre.length + 1 + 23) (ci := 3) (n := 6) (j := 2) (mid_in.trans rfl) rfl (mid_in.trans rfl) rfl rfl (by decide) (by decide) dX4_init_33 ?_
  refine kc_w mid_ins ?_
  refine kc_iinc (k := 0) (v := nI 3) dX4_init_34 rfl (by decide) (by decide) rfl ?_
  refine kc_goto (tgt := 15) dX4_init_37 (by decide) ?_
  show Ec G 2 _ mX4_init 15 [(1, .int (nI 3)), (0, .ref q)] [] _ _
  refine kc_iload dX4_init_15 0 rfl ?_
  refine kc_bipush (v := nI 6) dX4_init_16 (by decide) ?_
  refine kc_ge_f (tgt := 40) dX4_init_18 (by decide) (by decide) ?_
  refine kc_aload dX4_init_21 1 rfl ?_
  refine kc_get fX4_11 dX4_init_22 (v := .ref a0) rfl ?_
  refine kc_iload dX4_init_25 0 rfl ?_
  refine kc_new mk_X4_9 (by decide) dX4_init_26 (fun b3 => ?_)
  refine kc_dup dX4_init_29 ?_
  refine kc_init (as := []) (st := [.ref b3, .int (nI 3), .ref a0]) il_X4_17 hG (kX1_init hG) dX4_init_30 rfl (by decide) (by decide) rfl (fun ws3 hw3 => ?_)
  obtain ⟨c3, rfl, hc3⟩ := hw3
  refine kc_w (hc3.trans mid_app2) ?_
  refine kc_aast (k := pre.length + 1 + 0) (t := 5) (qk := pre.length + 1 + 34) (ci := 3) (n := 6) (j := 3) (mid_in.trans rfl) rfl (mid_in.trans rfl) rfl rfl (by decide) (by decide) dX4_init_33 ?_
  refine kc_w mid_ins ?_
  refine kc_iinc (k := 0) (v := nI 4) dX4_init_34 rfl (by decide) (by decide) rfl ?_
  refine kc_goto (tgt := 15) dX4_init_37 (by decide) ?_
  show Ec G 2 _ mX4_init 15 [(1, .int (nI 4)), (0, .ref q)] [] _ _
  refine kc_iload dX4_init_15 0 rfl ?_
  refine kc_bipush (v := nI 6) dX4_init_16 (by decide) ?_
  refine kc_ge_f (tgt := 40) dX4_init_18 (by decide) (by decide) ?_
  refine kc_aload dX4_init_21 1 rfl ?_
  refine kc_get fX4_11 dX4_init_22 (v := .ref a0) rfl ?_
  refine kc_iload dX4_init_25 0 rfl ?_
  refine kc_new mk_X4_9 (by decide) dX4_init_26 (fun b4 => ?_)
  refine kc_dup dX4_init_29 ?_
  refine kc_init (as := []) (st := [.ref b4, .int (nI 4), .ref a0]) il_X4_17 hG (kX1_init hG) dX4_init_30 rfl (by decide) (by decide) rfl (fun ws4 hw4 => ?_)
  obtain ⟨c4, rfl, hc4⟩ := hw4
  refine kc_w (hc4.trans mid_app2) ?_
  refine kc_aast (k := pre.length + 1 + 0) (t := 5) (qk := pre.length + 1 + 45) (ci := 3) (n := 6) (j := 4) (mid_in.trans rfl) rfl (mid_in.trans rfl) rfl rfl (by decide) (by decide) dX4_init_33 ?_
  refine kc_w mid_ins ?_
  refine kc_iinc (k := 0) (v := nI 5) dX4_init_34 rfl (by decide) (by decide) rfl ?_
  refine kc_goto (tgt := 15) dX4_init_37 (by decide) ?_
  show Ec G 2 _ mX4_init 15 [(1, .int (nI 5)), (0, .ref q)] [] _ _
  refine kc_iload dX4_init_15 0 rfl ?_
  refine kc_bipush (v := nI 6) dX4_init_16 (by decide) ?_
  refine kc_ge_f (tgt := 40) dX4_init_18 (by decide) (by decide) ?_
  refine kc_aload dX4_init_21 1 rfl ?_
  refine kc_get fX4_11 dX4_init_22 (v := .ref a0) rfl ?_
  refine kc_iload dX4_init_25 0 rfl ?_
  refine kc_new mk_X4_9 (by decide) dX4_init_26 (fun b5 => ?_)
  refine kc_dup dX4_init_29 ?_
  refine kc_init (as := []) (st := [.ref b5, .int (nI 5), .ref a0]) il_X4_17 hG (kX1_init hG) dX4_init_30 rfl (by decide) (by decide) rfl (fun ws5 hw5 => ?_)
  obtain ⟨c5, rfl, hc5⟩ := hw5
  refine kc_w (hc5.trans mid_app2) ?_
  refine kc_aast (k := pre.length + 1 + 0) (t := 5) (qk := pre.length + 1 + 56) (ci := 3) (n := 6) (j := 5) (mid_in.trans rfl) rfl (mid_in.trans rfl) rfl rfl (by decide) (by decide) dX4_init_33 ?_
  refine kc_w mid_ins ?_
  refine kc_iinc (k := 0) (v := nI 6) dX4_init_34 rfl (by decide) (by decide) rfl ?_
  refine kc_goto (tgt := 15) dX4_init_37 (by decide) ?_
  show Ec G 2 _ mX4_init 15 [(1, .int (nI 6)), (0, .ref q)] [] _ _
  refine kc_iload dX4_init_15 0 rfl ?_
  refine kc_bipush (v := nI 6) dX4_init_16 (by decide) ?_
  refine kc_ge_t (tgt := 40) dX4_init_18 (by decide) (by decide) ?_
  refine kc_ret dX4_init_40 rfl ⟨a0, _, fun k => [c0, c1, c2, c3, c4, c5].getD k c0, rfl, fun j hj => ?_⟩
  rcases (by omega : j = 0 ∨ j = 1 ∨ j = 2 ∨ j = 3 ∨ j = 4 ∨ j = 5) with rfl | rfl | rfl | rfl | rfl | rfl <;> rfl
def clL (G : GX) (q : Nat) (c1 c2 c3 : Nat → Nat) (hf : Nat → Option Nat) (hc : Nat → Nat → Nat) (b4 ha b5 cm b6 sp b7 b8 ln b9 r0 r1 b10 p0 p1 : Nat) : va_W := (q, .inr (10, [.ref (c1 0), .ref (c2 0), .ref (c3 0), .int 0, .ref b4, .ref b5, .ref b7, .ref b6, .ref b8, .ref b9, .ref b10, .int (-1)])) :: (chL G c1 ++ (chL G c2 ++ (chL G c3 ++ (hiL G b4 ha hf hc ++ [(b5, .inr (4, [.int 0, .int 0, .int 0, .int 0, .ref cm])), (cm, .inl (gC G 0, 12, .inl (fun _ => 0))), (b7, .inr (7, [.ref b6, .int 0])), (b6, .inr (9, [.ref sp, .int 0])), (sp, .inl (gC G 1, 60, .inl (fun _ => 0))), (b8, .inr (9, [.ref ln, .int 0])), (ln, .inl (gC G 1, 60, .inl (fun _ => 0))), (b9, .inr (8, [.ref r0, .ref r1, .int 0])), (r0, .inl (gC G 0, 3, .inl (fun _ => 0))), (r1, .inl (gC G 0, 3, .inl (fun _ => 0))), (b10, .inr (6, [.ref p0, .ref p1])), (p0, .inl (gC G 0, 64, .inl (fun _ => 0))), (p1, .inl (gC G 0, 64, .inl (fun _ => 0)))]))))
set_option maxRecDepth 8000 in
theorem kX11_init {G : GX} (hG : gA G 1000 < gZ G) {pre : va_W} {q : Nat} : BigC G 3 2200 mX11_init [.ref q] (pre ++ [(q, .inr (10, df_X11))]) (fun ws' => ∃ c1 c2 c3 hf hc b4 ha b5 cm b6 sp b7 b8 ln b9 r0 r1 b10 p0 p1, ws' = pre ++ clL G q c1 c2 c3 hf hc b4 ha b5 cm b6 sp b7 b8 ln b9 r0 r1 b10 p0 p1 ∧ ∀ j, j < 6 → hf j = some (hc j 0)) := by
  refine kc_of (by decide +kernel) rfl (Nat.le_of_ble_eq_true rfl) ?_
  show Ec G 3 2200 mX11_init 0 [(0, .ref q)] [] (pre ++ (q, .inr (10, df_X11)) :: []) _
  refine kc_aload dX11_init_0 0 rfl ?_
  refine kc_obj ob_X11 oi_2 oi_3 dX11_init_1 rfl ?_
  refine kc_aload dX11_init_4 0 rfl ?_
  refine kc_new mk_X11_7 (by decide) dX11_init_5 (fun b1 => ?_)
  refine kc_dup dX11_init_8 ?_
  refine kc_init (as := []) (st := [.ref b1, .ref q]) il_X11_9 hG (kX1_init hG) dX11_init_9 rfl (by decide) (by decide) rfl (fun wb1 hb1 => ?_)
  obtain ⟨c1, rfl, ec1⟩ := hb1
  refine kc_w (ec1.trans mid_app2) ?_
  refine kc_putF fX11_10 rfl (fun C T N h => by cases h; rfl) dX11_init_12 rfl rfl (Nat.le_of_ble_eq_true rfl) ?_
  refine kc_aload dX11_init_15 0 rfl ?_
  refine kc_new mk_X11_7 (by decide) dX11_init_16 (fun b2 => ?_)
  refine kc_dup dX11_init_19 ?_
  refine kc_init (as := []) (st := [.ref b2, .ref q]) il_X11_9 hG (kX1_init hG) dX11_init_20 rfl (by decide) (by decide) rfl (fun wb2 hb2 => ?_)
  obtain ⟨c2, rfl, ec2⟩ := hb2
  refine kc_w (ec2.trans mid_app2) ?_
  refine kc_putF fX11_16 rfl (fun C T N h => by cases h; rfl) dX11_init_23 rfl rfl (Nat.le_of_ble_eq_true rfl) ?_
  refine kc_aload dX11_init_26 0 rfl ?_
  refine kc_new mk_X11_7 (by decide) dX11_init_27 (fun b3 => ?_)
  refine kc_dup dX11_init_30 ?_
  refine kc_init (as := []) (st := [.ref b3, .ref q]) il_X11_9 hG (kX1_init hG) dX11_init_31 rfl (by decide) (by decide) rfl (fun wb3 hb3 => ?_)
  obtain ⟨c3, rfl, ec3⟩ := hb3
  refine kc_w (ec3.trans mid_app2) ?_
  refine kc_putF fX11_19 rfl (fun C T N h => by cases h; rfl) dX11_init_34 rfl rfl (Nat.le_of_ble_eq_true rfl) ?_
  refine kc_aload dX11_init_37 0 rfl ?_
  refine kc_new mk_X11_22 (by decide) dX11_init_38 (fun b4 => ?_)
  refine kc_dup dX11_init_41 ?_
  refine kc_init (as := []) (st := [.ref b4, .ref q]) il_X11_24 hG (kX4_init hG) dX11_init_42 rfl (by decide) (by decide) rfl (fun wb4 hb4 => ?_)
  obtain ⟨ha, hf, hc, eh, hfc⟩ := hb4
  refine kc_w (eh.trans mid_app2) ?_
  refine kc_putF fX11_25 rfl (fun C T N h => by cases h; rfl) dX11_init_45 rfl rfl (Nat.le_of_ble_eq_true rfl) ?_
  refine kc_aload dX11_init_48 0 rfl ?_
  refine kc_new mk_X11_29 (by decide) dX11_init_49 (fun b5 => ?_)
  refine kc_dup dX11_init_52 ?_
  refine kc_initN (as := []) (st := [.ref b5, .ref q]) iln_X11_31 hG (kX2_init hG) dX11_init_53 rfl (by decide) (by decide) rfl (fun wb5 hb5 => ?_)
  obtain ⟨cm, ecm⟩ := hb5
  refine kc_w (ecm.trans mid_app2) ?_
  refine kc_putF fX11_32 rfl (fun C T N h => by cases h; rfl) dX11_init_56 rfl rfl (Nat.le_of_ble_eq_true rfl) ?_
  refine kc_aload dX11_init_59 0 rfl ?_
  refine kc_new mk_X11_36 (by decide) dX11_init_60 (fun b7 => ?_)
  refine kc_dup dX11_init_63 ?_
  refine kc_initN (as := []) (st := [.ref b7, .ref q]) iln_X11_38 hG (kX7_init hG) dX11_init_64 rfl (by decide) (by decide) rfl (fun wb7 hb7 => ?_)
  obtain ⟨b6, sp, esp⟩ := hb7
  refine kc_w (esp.trans mid_app2) ?_
  refine kc_putF fX11_39 rfl (fun C T N h => by cases h; rfl) dX11_init_67 rfl rfl (Nat.le_of_ble_eq_true rfl) ?_
  refine kc_aload dX11_init_70 0 rfl ?_
  refine kc_aload dX11_init_71 0 rfl ?_
  refine kc_get fX11_39 dX11_init_72 (v := .ref b7) rfl ?_
  refine kc_gat (pre.length + 1 + 103) fX11_43 (fs := [.ref b6, .int 0]) (v := .ref b6) (mid_in.trans rfl) dX11_init_75 rfl ?_
  refine kc_putF fX11_47 rfl (fun C T N h => by cases h; rfl) dX11_init_78 rfl rfl (Nat.le_of_ble_eq_true rfl) ?_
  refine kc_aload dX11_init_81 0 rfl ?_
  refine kc_new mk_X11_50 (by decide) dX11_init_82 (fun b8 => ?_)
  refine kc_dup dX11_init_85 ?_
  refine kc_initN (as := []) (st := [.ref b8, .ref q]) iln_X11_52 hG (kX9_init hG) dX11_init_86 rfl (by decide) (by decide) rfl (fun wb8 hb8 => ?_)
  obtain ⟨ln, eln⟩ := hb8
  refine kc_w (eln.trans mid_app2) ?_
  refine kc_putF fX11_53 rfl (fun C T N h => by cases h; rfl) dX11_init_89 rfl rfl (Nat.le_of_ble_eq_true rfl) ?_
  refine kc_aload dX11_init_92 0 rfl ?_
  refine kc_new mk_X11_56 (by decide) dX11_init_93 (fun b9 => ?_)
  refine kc_dup dX11_init_96 ?_
  refine kc_initN (as := []) (st := [.ref b9, .ref q]) iln_X11_58 hG (kX8_init hG) dX11_init_97 rfl (by decide) (by decide) rfl (fun wb9 hb9 => ?_)
  obtain ⟨r0, r1, er⟩ := hb9
  refine kc_w (er.trans mid_app2) ?_
  refine kc_putF fX11_59 rfl (fun C T N h => by cases h; rfl) dX11_init_100 rfl rfl (Nat.le_of_ble_eq_true rfl) ?_
  refine kc_aload dX11_init_103 0 rfl ?_
  refine kc_new mk_X11_63 (by decide) dX11_init_104 (fun b10 => ?_)
  refine kc_dup dX11_init_107 ?_
  refine kc_initN (as := []) (st := [.ref b10, .ref q]) iln_X11_65 hG (kX6_init hG) dX11_init_108 rfl (by decide) (by decide) rfl (fun wb10 hb10 => ?_)
  obtain ⟨p0, p1, ep⟩ := hb10
  refine kc_w (ep.trans mid_app2) ?_
  refine kc_putF fX11_66 rfl (fun C T N h => by cases h; rfl) dX11_init_111 rfl rfl (Nat.le_of_ble_eq_true rfl) ?_
  refine kc_aload dX11_init_114 0 rfl ?_
  refine kc_iconst dX11_init_115 icm1 ?_
  refine kc_put fX11_70 dX11_init_116 rfl rfl (Nat.le_of_ble_eq_true rfl) ?_
  exact kc_ret dX11_init_119 rfl ⟨c1, c2, c3, hf, hc, b4, ha, b5, cm, b6, sp, b7, b8, ln, b9, r0, r1, b10, p0, p1, rfl, hfc⟩
