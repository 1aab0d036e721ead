/-! constructors: the reference -/
theorem kc_bu {G : GX} {d b : Nat} {M : MT} {pc : Nat} {L : List (Nat × Value)} {st : List Value} {ws : va_W} {Z : ZT} (b2 : Nat) (h : b2 ≤ b) (K : Ec G d b2 M pc L st ws Z) : Ec G d b M pc L st ws Z := by
  intro p e R s m args below meth c H locs cells slots lsA C r hP hD hS hL
  exact K p e R s m args below meth c H locs cells slots lsA C ⟨r.1, r.2.1, by have := r.2.2.1; omega, by have := r.2.2.2; omega⟩ hP hD hS hL
def upR : Nat → Nat → Int32
  | 0 => upd (fun _ => 0) 2 (nI 1)
  | k + 1 => upd (upR k) (7 + 3 * k) (nI 100)
def upC : Nat → Nat → Int32
  | 0 => upR 4
  | k + 1 => upd (upC k) (19 + k) (-1)
def mdL (G : GX) (q a0 a1 a2 a3 a4 a5 a6 a7 a8 : Nat) (f : Nat → Int32) : va_W := (q, .inr (10, [.ref a0, .ref a1, .ref a2, .int 0, .ref a3, .int 0, .int 0, .ref a4, .int 0, .ref a5, .ref a6, .int 0, .ref a7, .int 0, .int 0, .int 0, .int (-1), .ref a8, .int 0])) :: (a0, .inl (gC G 0, 158, .inl f)) :: [(a1, .inl (gC G 0, 158, .inl (fun _ => 0))), (a2, .inl (gC G 0, 158, .inl (fun _ => 0))), (a3, .inl (gC G 0, 948, .inl (fun _ => 0))), (a4, .inl (gC G 0, 6, .inl (fun _ => 0))), (a5, .inl (gC G 2, 64, .inl (fun _ => 0))), (a6, .inl (gC G 1, 40, .inl (fun _ => 0))), (a7, .inl (gC G 1, 60, .inl (fun _ => 0))), (a8, .inl (gC G 0, 300, .inl (fun _ => 0)))]
set_option maxRecDepth 8000 in
theorem kX12_init {G : GX} (hG : gA G 1000 < gZ G) {pre : va_W} {q : Nat} : BigC G 1 2000 mX12_init [.ref q] (pre ++ [(q, .inr (10, df_X12))]) (fun ws' => ∃ a0 a1 a2 a3 a4 a5 a6 a7 a8, ws' = pre ++ mdL G q a0 a1 a2 a3 a4 a5 a6 a7 a8 (upC 64)) := by
  refine kc_of (by decide +kernel) rfl (Nat.le_of_ble_eq_true rfl) ?_
  show Ec G 1 2000 mX12_init 0 [(0, .ref q)] [] (pre ++ (q, .inr (10, df_X12)) :: []) _
  refine kc_aload dX12_init_0 0 rfl ?_
  refine kc_obj ob_X12 oi_2 oi_3 dX12_init_1 rfl ?_
  refine kc_aload dX12_init_4 0 rfl ?_
  refine kc_sipush (v := nI 158) dX12_init_5 (by decide) ?_
  refine kc_newa (at_ := .int) (t := 0) (zz := .inl (fun _ => 0)) ac_i rfl rfl ra_i (fun _ => rfl) (by decide) (by decide) (by decide) dX12_init_8 (fun a0 => ?_)
  refine kc_w mid_app ?_
  refine kc_putF fX12_9 rfl (fun C T N h => by cases h; rfl) dX12_init_10 rfl rfl (Nat.le_of_ble_eq_true rfl) ?_
  refine kc_aload dX12_init_13 0 rfl ?_
  refine kc_sipush (v := nI 158) dX12_init_14 (by decide) ?_
  refine kc_newa (at_ := .int) (t := 0) (zz := .inl (fun _ => 0)) ac_i rfl rfl ra_i (fun _ => rfl) (by decide) (by decide) (by decide) dX12_init_17 (fun a1 => ?_)
  refine kc_w mid_app ?_
  refine kc_putF fX12_13 rfl (fun C T N h => by cases h; rfl) dX12_init_19 rfl rfl (Nat.le_of_ble_eq_true rfl) ?_
  refine kc_aload dX12_init_22 0 rfl ?_
  refine kc_sipush (v := nI 158) dX12_init_23 (by decide) ?_
  refine kc_newa (at_ := .int) (t := 0) (zz := .inl (fun _ => 0)) ac_i rfl rfl ra_i (fun _ => rfl) (by decide) (by decide) (by decide) dX12_init_26 (fun a2 => ?_)
  refine kc_w mid_app ?_
  refine kc_putF fX12_16 rfl (fun C T N h => by cases h; rfl) dX12_init_28 rfl rfl (Nat.le_of_ble_eq_true rfl) ?_
  refine kc_aload dX12_init_31 0 rfl ?_
  refine kc_sipush (v := nI 948) dX12_init_32 (by decide) ?_
  refine kc_newa (at_ := .int) (t := 0) (zz := .inl (fun _ => 0)) ac_i rfl rfl ra_i (fun _ => rfl) (by decide) (by decide) (by decide) dX12_init_35 (fun a3 => ?_)
  refine kc_w mid_app ?_
  refine kc_putF fX12_19 rfl (fun C T N h => by cases h; rfl) dX12_init_37 rfl rfl (Nat.le_of_ble_eq_true rfl) ?_
  refine kc_aload dX12_init_40 0 rfl ?_
  refine kc_bipush (v := nI 6) dX12_init_41 (by decide) ?_
  refine kc_newa (at_ := .int) (t := 0) (zz := .inl (fun _ => 0)) ac_i rfl rfl ra_i (fun _ => rfl) (by decide) (by decide) (by decide) dX12_init_43 (fun a4 => ?_)
  refine kc_w mid_app ?_
  refine kc_putF fX12_22 rfl (fun C T N h => by cases h; rfl) dX12_init_45 rfl rfl (Nat.le_of_ble_eq_true rfl) ?_
  refine kc_aload dX12_init_48 0 rfl ?_
  refine kc_bipush (v := nI 64) dX12_init_49 (by decide) ?_
  refine kc_newa (at_ := .boolean) (t := 2) (zz := .inl (fun _ => 0)) ac_z rfl rfl ra_z (fun _ => rfl) (by decide) (by decide) (by decide) dX12_init_51 (fun a5 => ?_)
  refine kc_w mid_app ?_
  refine kc_putF fX12_25 rfl (fun C T N h => by cases h; rfl) dX12_init_53 rfl rfl (Nat.le_of_ble_eq_true rfl) ?_
  refine kc_aload dX12_init_56 0 rfl ?_
  refine kc_bipush (v := nI 40) dX12_init_57 (by decide) ?_
  refine kc_newa (at_ := .char) (t := 1) (zz := .inl (fun _ => 0)) ac_c rfl rfl ra_c (fun _ => rfl) (by decide) (by decide) (by decide) dX12_init_59 (fun a6 => ?_)
  refine kc_w mid_app ?_
  refine kc_putF fX12_29 rfl (fun C T N h => by cases h; rfl) dX12_init_61 rfl rfl (Nat.le_of_ble_eq_true rfl) ?_
  refine kc_aload dX12_init_64 0 rfl ?_
  refine kc_bipush (v := nI 60) dX12_init_65 (by decide) ?_
  refine kc_newa (at_ := .char) (t := 1) (zz := .inl (fun _ => 0)) ac_c rfl rfl ra_c (fun _ => rfl) (by decide) (by decide) (by decide) dX12_init_67 (fun a7 => ?_)
  refine kc_w mid_app ?_
  refine kc_putF fX12_33 rfl (fun C T N h => by cases h; rfl) dX12_init_69 rfl rfl (Nat.le_of_ble_eq_true rfl) ?_
  refine kc_aload dX12_init_72 0 rfl ?_
  refine kc_iconst dX12_init_73 icm1 ?_
  refine kc_put fX12_36 dX12_init_74 rfl rfl (Nat.le_of_ble_eq_true rfl) ?_
  refine kc_aload dX12_init_77 0 rfl ?_
  refine kc_sipush (v := nI 300) dX12_init_78 (by decide) ?_
  refine kc_newa (at_ := .int) (t := 0) (zz := .inl (fun _ => 0)) ac_i rfl rfl ra_i (fun _ => rfl) (by decide) (by decide) (by decide) dX12_init_81 (fun a8 => ?_)
  refine kc_w mid_app ?_
  refine kc_putF fX12_40 rfl (fun C T N h => by cases h; rfl) dX12_init_83 rfl rfl (Nat.le_of_ble_eq_true rfl) ?_
  refine kc_aload dX12_init_86 0 rfl ?_
  refine kc_get fX12_9 dX12_init_87 (v := .ref a0) rfl ?_
  refine kc_iconst dX12_init_90 ic2 ?_
  refine kc_iconst dX12_init_91 ic1 ?_
  refine kc_iast (k := pre.length + 1 + 0) (t := 0) (n := 158) (j := 2) (f := fun _ => 0) (mid_in.trans rfl) rfl rfl (by decide) (by decide) dX12_init_92 ?_
  refine kc_w (ws' := pre ++ mdL G q a0 a1 a2 a3 a4 a5 a6 a7 a8 (upR 0)) (mid_ins.trans rfl) ?_
  refine kc_bu 0 (Nat.zero_le _) ?_
  have l2 : ∀ (n k : Nat), k + n = 64 → Ec G 1 0 mX12_init 121 [(1, .int (nI k)), (0, .ref q)] [] (pre ++ mdL G q a0 a1 a2 a3 a4 a5 a6 a7 a8 (upC k)) (zc_ G (fun ws' => ∃ a0 a1 a2 a3 a4 a5 a6 a7 a8, ws' = pre ++ mdL G q a0 a1 a2 a3 a4 a5 a6 a7 a8 (upC 64))) := by
    intro n
    induction n with
    | zero =>
      intro k hk
      obtain rfl : k = 64 := by omega
      refine kc_iload dX12_init_121 0 rfl ?_
      refine kc_bipush (v := nI 64) dX12_init_122 (by decide) ?_
      refine kc_ge_t (tgt := 143) dX12_init_124 (by decide) (Int32.le_refl _) ?_
      exact kc_ret dX12_init_143 rfl ⟨a0, a1, a2, a3, a4, a5, a6, a7, a8, rfl⟩
    | succ n ih =>
      intro k hk
      refine kc_iload dX12_init_121 0 rfl ?_
      refine kc_bipush (v := nI 64) dX12_init_122 (by decide) ?_
      refine kc_ge_f (tgt := 143) dX12_init_124 (by decide) (nI_ge (by omega) (by decide)) ?_
      refine kc_aload dX12_init_127 1 rfl ?_
      refine kc_get (fs := [.ref a0, .ref a1, .ref a2, .int 0, .ref a3, .int 0, .int 0, .ref a4, .int 0, .ref a5, .ref a6, .int 0, .ref a7, .int 0, .int 0, .int 0, .int (-1), .ref a8, .int 0]) (pre := pre) (q := q) (ci := 10) fX12_9 dX12_init_128 (v := .ref a0) rfl ?_
      refine kc_bipush (v := nI 19) dX12_init_131 (by decide) ?_
      refine kc_iload dX12_init_133 0 rfl ?_
      refine kc_iadd dX12_init_134 ?_
      refine kc_iconst dX12_init_135 icm1 ?_
      refine kc_iast (k := pre.length + 1 + 0) (t := 0) (n := 158) (j := 19 + k) (f := upC k) (mid_in.trans rfl) rfl (nI_add 19 k) (by omega) (by decide) dX12_init_136 ?_
      refine kc_w (ws' := pre ++ mdL G q a0 a1 a2 a3 a4 a5 a6 a7 a8 (upC (k + 1))) (mid_ins.trans rfl) ?_
      refine kc_iinc (k := 0) (v := nI (k + 1)) dX12_init_137 rfl (nI_inc k) (by decide) rfl ?_
      refine kc_goto (tgt := 121) dX12_init_140 (by decide) ?_
      exact ih (k + 1) (by omega)
  have l1 : ∀ (n k : Nat), k + n = 4 → Ec G 1 0 mX12_init 95 [(1, .int (nI k)), (0, .ref q)] [] (pre ++ mdL G q a0 a1 a2 a3 a4 a5 a6 a7 a8 (upR k)) (zc_ G (fun ws' => ∃ a0 a1 a2 a3 a4 a5 a6 a7 a8, ws' = pre ++ mdL G q a0 a1 a2 a3 a4 a5 a6 a7 a8 (upC 64))) := by
    intro n
    induction n with
    | zero =>
      intro k hk
      obtain rfl : k = 4 := by omega
      refine kc_iload dX12_init_95 0 rfl ?_
      refine kc_iconst dX12_init_96 ic4 ?_
      refine kc_ge_t (tgt := 119) dX12_init_97 (by decide) (Int32.le_refl _) ?_
      refine kc_iconst dX12_init_119 ic0 ?_
      refine kc_ist (k := 1) dX12_init_120 (by decide) rfl ?_
      exact l2 64 0 rfl
    | succ n ih =>
      intro k hk
      refine kc_iload dX12_init_95 0 rfl ?_
      refine kc_iconst dX12_init_96 ic4 ?_
      refine kc_ge_f (tgt := 119) dX12_init_97 (by decide) (nI_ge (by omega) (by decide)) ?_
      refine kc_aload dX12_init_100 1 rfl ?_
      refine kc_get (fs := [.ref a0, .ref a1, .ref a2, .int 0, .ref a3, .int 0, .int 0, .ref a4, .int 0, .ref a5, .ref a6, .int 0, .ref a7, .int 0, .int 0, .int 0, .int (-1), .ref a8, .int 0]) (pre := pre) (q := q) (ci := 10) fX12_9 dX12_init_101 (v := .ref a0) rfl ?_
      refine kc_bipush (v := nI 7) dX12_init_104 (by decide) ?_
      refine kc_iconst dX12_init_106 ic3 ?_
      refine kc_iload dX12_init_107 0 rfl ?_
      refine kc_imul dX12_init_108 ?_
      refine kc_iadd dX12_init_109 ?_
      refine kc_bipush (v := nI 100) dX12_init_110 (by decide) ?_
      refine kc_iast (k := pre.length + 1 + 0) (t := 0) (n := 158) (j := 7 + 3 * k) (f := upR k) (mid_in.trans rfl) rfl (by rw [pk_mul, nI_add]) (by omega) (by decide) dX12_init_112 ?_
      refine kc_w (ws' := pre ++ mdL G q a0 a1 a2 a3 a4 a5 a6 a7 a8 (upR (k + 1))) (mid_ins.trans rfl) ?_
      refine kc_iinc (k := 0) (v := nI (k + 1)) dX12_init_113 rfl (nI_inc k) (by decide) rfl ?_
      refine kc_goto (tgt := 95) dX12_init_116 (by decide) ?_
      exact ih (k + 1) (by omega)
  refine kc_iconst dX12_init_93 ic0 ?_
  refine kc_ist (k := 1) dX12_init_94 (by decide) rfl ?_
  exact l1 4 0 rfl
