/-! the law's judgement of the realms -/
section
variable {p : Program} {l : Launch} {e : Env} {R : Room} {s : State} {m : MethodId} {args : Array Value} {below : List Frame} {meth : Method} {c : Code} {H : Heap} {locs : List Loc} {cells slots : Nat}
theorem lw_F {T : State} (X : Stand p l e R s m args below meth c T locs cells slots) (hexec : p.tables.exec = Jvm.exec) {own : String} {index : Nat} {v : UInt32} (hown : s.vm.findClass own = some m.cls)
    (hconst : (Cond.constantFloat own index v).before args s = true) {g : JFrame} (hg : g.method = m) (hdg : decode c.code g.pc = .ok (.ldc_w index, 3)) :
    ∀ target, Steps p.tables e below (T.setTop { g with pc := g.pc + 3, stack := .float v :: g.stack }) target → Steps p.tables e below (T.setTop g) target := by
  obtain ⟨k, cf, hk, hcf, hcp⟩ := Cond.constantFloat_spec hown hconst
  obtain ⟨k', hk', he⟩ := X.warmed.alike.2.2 _ _ hk
  intro target hrest
  subst hg
  jvm_step X.here [hexec, hdg, Jvm.Op.ldc_w.wp_float (s := T) (f := g) X.here.top hk' (by rw [he]; exact hcf) hcp]
  exact hrest
end
section
variable {G : GX} {d b : Nat} {M : MT} {pc : Nat} {ls : List (Option Value)} {w : WS} {Z : ZT} {st : List Value}
theorem ev_ldcwf {i : Nat} {v : UInt32} (hw : Cond.constantFloat M.1.cls i v ∈ gd_) (hd : decode M.2.1 pc = .ok (.ldc_w i, 3)) (K : Ev G d b M (pc + 3) ls (.float v :: st) w Z) : Ev G d b M pc ls st w Z := by
  intro p e R s m args below meth c H locs cells slots lsA C r hP hD hS hL
  intro T hT X
  obtain ⟨t, a, b⟩ := K p e R s m args below meth c H locs cells slots lsA C r hP hD hS hL T hT X
  exact ⟨t, lw_F X C.2.1 C.2.2.2.2.2.1 (C.2.2.2.2.2.2.1 _ hw) (g := F0 m pc lsA _) rfl (by rw [C.2.2.1]; exact hd) t a, b⟩
theorem ev_fcmp {x y : UInt32} {op : CmpOp} (hd : decode M.2.1 pc = .ok (.fcmp op, 1)) (K : Ev G d b M (pc + 1) ls (.int (Op.cmpValue (FP.fcmp x y) op) :: st) w Z) : Ev G d b M pc ls (.float y :: .float x :: st) w Z := by
  intro p e R s m args below meth c H locs cells slots lsA C r hP hD hS hL
  exact lv_fcmp C.2.1 C.2.2.1 hd (K p e R s m args below meth c H locs cells slots lsA C r hP hD hS hL)
end
def cE (S : ST) (j : Nat) : Int32 := if j < 64 then sO S j else 0
theorem cE_at {S : ST} {j : Nat} (h : j < 64) : cE S j = sO S j := if_pos h
def inK (S : ST) (r : Int32) (k : Nat) (v : Int32) (j : Nat) : Nat := if sO S k = r then nbK S k v j else 0
theorem inK_s {S : ST} {r : Int32} {k : Nat} {v : Int32} {j : Nat} {B : Bool} (hB : B = (sO S k == r && bsd k j)) : inK S r k v (j + 1) = inK S r k v j + if (B && sO S j == v) = true then 1 else 0 := by
  subst hB
  unfold inK
  by_cases h : sO S k = r
  · rw [if_pos h, if_pos h, nbK_s]
    simp [h]
  · rw [if_neg h, if_neg h]
    simp [h]
theorem inK_f {S : ST} {r : Int32} {k : Nat} {v : Int32} {j : Nat} {B : Bool} (hB : B = (sO S k == r && bsd k j)) (h : B = false ∨ sO S j ≠ v) : inK S r k v j = inK S r k v (j + 1) := by
  rw [inK_s hB]
  rcases h with h | h
  · simp [h]
  · simp [h]
theorem inK_t {S : ST} {r : Int32} {k : Nat} {v : Int32} {j : Nat} (hB : true = (sO S k == r && bsd k j)) (h : sO S j = v) : inK S r k v j + 1 = inK S r k v (j + 1) := by
  rw [inK_s hB]
  simp [h]
theorem bo_sym {S : ST} {r n : Nat} : (if r = n then 0 else prs S (nI r) (nI n) + prs S (nI n) (nI r)) = (if n = r then 0 else prs S (nI n) (nI r) + prs S (nI r) (nI n)) := by
  by_cases h : r = n
  · rw [if_pos h, if_pos h.symm]
  · rw [if_neg h, if_neg (fun q => h q.symm)]
    omega
theorem os_ok : ∀ n : Fin 65, FP.fdiv (FP.i2f (nI n.val)) 1115684864 &&& 0x7fffffff ≤ 0x7f800000 ∧ Op.cmpValue (FP.fcmp (FP.fdiv (FP.i2f (nI n.val)) 1115684864) (FP.fdiv (FP.i2f (nI n.val)) 1115684864)) .l = 0 := by decide +kernel
theorem lc_rk {S : ST} {p a : Nat} (h : plc (fR S) (sC S) 4 (nI p) = some a) {cs : List Int32} : lc_ cs (qRk S (nI p)) = nI a := by
  unfold qRk
  rw [h]
  rfl
theorem lc_rkn {S : ST} (h : plc (fR S) (sC S) 4 (nI 4) = none) {x : Int32} : lc_ [x] (qRk S (nI 4)) = x := by
  unfold qRk
  rw [h]
  rfl
set_option maxRecDepth 8000 in
theorem gL_realms_a {G : GX} {b : Nat} {f : Nat → Nat → Int32} {T : va_W} {S : ST} (ho : okS S) {a z r k : Nat} (hr : r < 4) (hk : k < 64) {v2 v4 v5 v6 : Option Value} {Z : ZT}
    (K : ∀ (g : Nat → Int32) (v11 : Option Value), (∀ i, i < 4 → g i = nI (bdr S (nI r) (nI i) k + inK S (nI r) k (nI i) 64)) → Ev G 22 b mL_realms 128 [some (.ref 0), some (dy a), v2, some (.int (nI r)), v4, v5, v6, some (dy z), some (.int (nI (k))), some (.int (nI (inK S (nI r) k (nI r) 64))), some (.int (nI (64))), v11] [] (f, T ++ [arI G a 64 (cE S), arI G z 4 g]) Z) :
    ∀ (n j : Nat) (g : Nat → Int32) (v11 : Option Value) (x : Nat), j + n = 64 → x = inK S (nI r) k (nI r) j → (∀ i, i < 4 → g i = nI (bdr S (nI r) (nI i) k + inK S (nI r) k (nI i) j)) → Ev G 22 b mL_realms 44 [some (.ref 0), some (dy a), v2, some (.int (nI r)), v4, v5, v6, some (dy z), some (.int (nI (k))), some (.int (nI (x))), some (.int (nI (j))), v11] [] (f, T ++ [arI G a 64 (cE S), arI G z 4 g]) Z := by
  intro n
  induction n with
  | zero =>
    intro j g v11 x hj hx hg
    subst hx
    obtain rfl : j = 64 := by omega
    refine ev_iload dL_realms_44 rfl ?_
    refine ev_bipush (v := nI 64) dL_realms_46 (by decide) ?_
    refine ev_icmp_ge_t (tgt := 128) dL_realms_48 (by decide) (Int32.le_refl _) ?_
    exact K g v11 hg
  | succ n ih =>
    intro j g v11 x hj hx hg
    subst hx
    have hj64 : j < 64 := by omega
    have at74 : ∀ B : Bool, B = (sO S k == nI r && bsd k j) → Ev G 22 b mL_realms 74 [some (.ref 0), some (dy a), v2, some (.int (nI r)), v4, v5, v6, some (dy z), some (.int (nI (k))), some (.int (nI (inK S (nI r) k (nI r) j))), some (.int (nI (j))), v11] [.int (bI B)] (f, T ++ [arI G a 64 (cE S), arI G z 4 g]) Z := by
      intro B hB
      refine ev_istore_g dL_realms_74 (by decide) rfl ?_
      refine ev_iload dL_realms_76 rfl ?_
      refine ev_iload dL_realms_78 rfl ?_
      have at122 : ∀ g2, (∀ i, i < 4 → g2 i = nI (bdr S (nI r) (nI i) k + inK S (nI r) k (nI i) (j + 1))) → Ev G 22 b mL_realms 122 [some (.ref 0), some (dy a), v2, some (.int (nI r)), v4, v5, v6, some (dy z), some (.int (nI (k))), some (.int (nI (inK S (nI r) k (nI r) (j + 1)))), some (.int (nI (j))), some (.int (bI B))] [] (f, T ++ [arI G a 64 (cE S), arI G z 4 g2]) Z := by
        intro g2 hg2
        refine ev_iinc_g dL_realms_122 rfl (nI_inc _) (by decide) rfl ?_
        refine ev_goto (tgt := 44) dL_realms_125 (by decide) ?_
        exact ih (j + 1) g2 _ _ (by omega) rfl hg2
      have at96 : ∀ x : Nat, inK S (nI r) k (nI r) j + x = inK S (nI r) k (nI r) (j + 1) → Ev G 22 b mL_realms 96 [some (.ref 0), some (dy a), v2, some (.int (nI r)), v4, v5, v6, some (dy z), some (.int (nI (k))), some (.int (nI (inK S (nI r) k (nI r) j))), some (.int (nI (j))), some (.int (bI B))] [.int (nI x), .int (nI (inK S (nI r) k (nI r) j))] (f, T ++ [arI G a 64 (cE S), arI G z 4 g]) Z := by
        intro x hx
        refine ev_iadd dL_realms_96 ?_
        refine ev_top (nI_add _ _) ?_
        rw [hx]
        refine ev_ist9 dL_realms_97 (by decide) rfl ?_
        refine ev_iload dL_realms_99 rfl ?_
        cases B with
        | false =>
          refine ev_if_eq_t (tgt := 122) dL_realms_101 (by decide) rfl ?_
          exact at122 g (fun i hi => by rw [← inK_f hB (Or.inl rfl)]; exact hg i hi)
        | true =>
          refine ev_if_eq_f (tgt := 122) dL_realms_101 (by decide) (by decide) ?_
          refine ev_aload_n dL_realms_104 rfl ?_
          refine ev_iload dL_realms_105 rfl ?_
          refine ev_ialoadT (w := (f, T ++ [arI G a 64 (cE S), arI G z 4 g])) (t := 0) (i := T.length) (f := cE S) tl0 dL_realms_107 rfl hj64 (by decide) ?_
          refine ev_top (cE_at hj64) ?_
          rcases ho.1 j hj64 with e | ⟨c, hc4, e⟩
          · refine ev_if_lt_t (tgt := 122) dL_realms_108 (by decide) (by rw [e]; decide) ?_
            exact at122 g (fun i hi => by rw [← inK_f hB (Or.inr (by rw [e]; exact fun q => nI_m1 (by omega) q.symm))]; exact hg i hi)
          · refine ev_if_lt_f (tgt := 122) dL_realms_108 (by decide) (by rw [e]; exact nI_pos (by omega)) ?_
            refine ev_aload dL_realms_111 rfl ?_
            refine ev_aload_n dL_realms_113 rfl ?_
            refine ev_iload dL_realms_114 rfl ?_
            refine ev_ialoadT (w := (f, T ++ [arI G a 64 (cE S), arI G z 4 g])) (t := 0) (i := T.length) (f := cE S) tl0 dL_realms_116 rfl hj64 (by decide) ?_
            refine ev_top (cE_at hj64) ?_
            refine ev_top e ?_
            refine ev_dup2 dL_realms_117 rfl rfl ?_
            refine ev_ialoadT (w := (f, T ++ [arI G a 64 (cE S), arI G z 4 g])) (t := 0) (i := T.length + 1) (f := g) tl1 dL_realms_118 rfl hc4 (by decide) ?_
            refine ev_top (hg c hc4) ?_
            refine ev_iconst dL_realms_119 ic1 ?_
            refine ev_iadd dL_realms_120 ?_
            refine ev_top (nI_add _ 1) ?_
            refine ev_iastoreT (w := (f, T ++ [arI G a 64 (cE S), arI G z 4 g])) (i := T.length + 1) (f := g) (T2 := T ++ [arI G a 64 (cE S), arI G z 4 (upd g c (nI (bdr S (nI r) (nI c) k + inK S (nI r) k (nI c) j + 1)))]) tl1 dL_realms_121 rfl hc4 (by decide) ts1 ?_
            refine at122 _ (fun i hi => ?_)
            by_cases q : i = c
            · subst q
              rw [upd_s, Nat.add_assoc, inK_t hB e]
            · rw [upd_n q, ← inK_f hB (Or.inr (by rw [e]; exact fun z => q ((nI_eq (by omega) (by omega)).mp z).symm))]
              exact hg i hi
      cases hBB : B with
      | false =>
        subst hBB
        refine ev_if_eq_t (tgt := 95) dL_realms_80 (by decide) rfl ?_
        refine ev_iconst dL_realms_95 ic0 ?_
        exact at96 0 (inK_f hB (Or.inl rfl))
      | true =>
        subst hBB
        refine ev_if_eq_f (tgt := 95) dL_realms_80 (by decide) (by decide) ?_
        refine ev_aload_n dL_realms_83 rfl ?_
        refine ev_iload dL_realms_84 rfl ?_
        refine ev_ialoadT (w := (f, T ++ [arI G a 64 (cE S), arI G z 4 g])) (t := 0) (i := T.length) (f := cE S) tl0 dL_realms_86 rfl hj64 (by decide) ?_
        refine ev_top (cE_at hj64) ?_
        refine ev_iload_n dL_realms_87 rfl ?_
        by_cases e : sO S j = nI r
        · refine ev_icmp_ne_f (tgt := 95) dL_realms_88 (by decide) e ?_
          refine ev_iconst dL_realms_91 ic1 ?_
          refine ev_goto (tgt := 96) dL_realms_92 (by decide) ?_
          exact at96 1 (inK_t hB e)
        · refine ev_icmp_ne_t (tgt := 95) dL_realms_88 (by decide) e ?_
          refine ev_iconst dL_realms_95 ic0 ?_
          exact at96 0 (inK_f hB (Or.inr e))
    refine ev_iload dL_realms_44 rfl ?_
    refine ev_bipush (v := nI 64) dL_realms_46 (by decide) ?_
    refine ev_icmp_ge_f (tgt := 128) dL_realms_48 (by decide) (nI_ge hj64 (by decide)) ?_
    refine ev_aload_n dL_realms_51 rfl ?_
    refine ev_iload dL_realms_52 rfl ?_
    refine ev_ialoadT (w := (f, T ++ [arI G a 64 (cE S), arI G z 4 g])) (t := 0) (i := T.length) (f := cE S) tl0 dL_realms_54 rfl hk (by decide) ?_
    refine ev_top (cE_at hk) ?_
    refine ev_iload_n dL_realms_55 rfl ?_
    by_cases e : sO S k = nI r
    · refine ev_icmp_ne_f (tgt := 73) dL_realms_56 (by decide) e ?_
      refine ev_iload dL_realms_59 rfl ?_
      refine ev_iload dL_realms_61 rfl ?_
      refine ev_callS (w := (f, T ++ [arI G a 64 (cE S), arI G z 4 g])) kL_200 (as := [.int (nI k), .int (nI j)]) (rest := []) (gL_areBeside hk hj64) dL_realms_63 rfl (by decide) (Nat.zero_le _) rfl ?_
      cases hb : bsd k j with
      | false =>
        refine ev_if_eq_t (tgt := 73) dL_realms_66 (by decide) rfl ?_
        refine ev_iconst dL_realms_73 ic0 ?_
        exact at74 false (by rw [hb]; simp)
      | true =>
        refine ev_if_eq_f (tgt := 73) dL_realms_66 (by decide) (by decide) ?_
        refine ev_iconst dL_realms_69 ic1 ?_
        refine ev_goto (tgt := 74) dL_realms_70 (by decide) ?_
        exact at74 true (by rw [hb]; simp [e])
    · refine ev_icmp_ne_t (tgt := 73) dL_realms_56 (by decide) e ?_
      refine ev_iconst dL_realms_73 ic0 ?_
      exact at74 false (by simp [e])
set_option maxRecDepth 8000 in
theorem gL_realms_b {G : GX} {b : Nat} {T : va_W} {A : AS} {S : ST} (hS : aS A = S) (ho : okS S) {a z r : Nat} (hr : r < 4) {v2 : Option Value} {Z : ZT}
    (K : ∀ (w : WS) (g : Nat → Int32) (v9 v10 v11 : Option Value), aX A w → w.2 = T ++ [arI G a 64 (cE S), arI G z 4 g] → (∀ i, i < 4 → g i = nI (bdr S (nI r) (nI i) 64)) → Ev G 22 b mL_realms 219 [some (.ref 0), some (dy a), v2, some (.int (nI r)), some (.int (nI (ct (fun c => sO S c == nI r) 64))), some (.int (nI (ard S (nI r) 64))), some (.int (nI (ct (canB S (nI r)) 64))), some (dy z), some (.int (nI (64))), v9, v10, v11] [] w Z) :
    ∀ (n k : Nat) (w : WS) (g : Nat → Int32) (v9 v10 v11 : Option Value), k + n = 64 → aX A w → w.2 = T ++ [arI G a 64 (cE S), arI G z 4 g] → (∀ i, i < 4 → g i = nI (bdr S (nI r) (nI i) k)) → Ev G 22 (n + b) mL_realms 31 [some (.ref 0), some (dy a), v2, some (.int (nI r)), some (.int (nI (ct (fun c => sO S c == nI r) k))), some (.int (nI (ard S (nI r) k))), some (.int (nI (ct (canB S (nI r)) k))), some (dy z), some (.int (nI (k))), v9, v10, v11] [] w Z := by
  intro n
  induction n with
  | zero =>
    intro k w g v9 v10 v11 hk hX hT hg
    obtain rfl : k = 64 := by omega
    refine ev_iload dL_realms_31 rfl ?_
    refine ev_bipush (v := nI 64) dL_realms_33 (by decide) ?_
    refine ev_icmp_ge_t (tgt := 219) dL_realms_35 (by decide) (Int32.le_refl _) ?_
    exact ev_bu _ (by omega) (K w g v9 v10 v11 hX hT hg)
  | succ n ih =>
    intro k w g v9 v10 v11 hk hX hT hg
    have hk64 : k < 64 := by omega
    have hrm : nI r ≠ -1 := nI_m1 (by omega)
    refine ev_iload dL_realms_31 rfl ?_
    refine ev_bipush (v := nI 64) dL_realms_33 (by decide) ?_
    refine ev_icmp_ge_f (tgt := 219) dL_realms_35 (by decide) (nI_ge hk64 (by decide)) ?_
    refine ev_iconst dL_realms_38 ic0 ?_
    refine ev_ist9 dL_realms_39 (by decide) rfl ?_
    refine ev_iconst dL_realms_41 ic0 ?_
    refine ev_istore_g dL_realms_42 (by decide) rfl ?_
    obtain ⟨f, t⟩ := w
    obtain rfl : t = T ++ [arI G a 64 (cE S), arI G z 4 g] := hT
    refine gL_realms_a ho hr hk64 (fun g v11 hg => ?_) 64 0 g v11 0 rfl (by unfold inK; split <;> rfl) (fun i hi => by rw [hg i hi]; congr 1; unfold inK; split <;> rfl)
    have hgn : ∀ i, i < 4 → g i = nI (bdr S (nI r) (nI i) (k + 1)) := fun i hi => hg i hi
    have at213 : ∀ (w : WS) (v10 : Option Value), aX A w → w.2 = T ++ [arI G a 64 (cE S), arI G z 4 g] → Ev G 22 (n + b) mL_realms 213 [some (.ref 0), some (dy a), v2, some (.int (nI r)), some (.int (nI (ct (fun c => sO S c == nI r) (k + 1)))), some (.int (nI (ard S (nI r) (k + 1)))), some (.int (nI (ct (canB S (nI r)) (k + 1)))), some (dy z), some (.int (nI (k))), some (.int (nI (inK S (nI r) k (nI r) 64))), v10, v11] [] w Z := by
      intro w v10 hX hT
      refine ev_iinc8 dL_realms_213 (nI_inc _) (by decide) rfl ?_
      refine ev_goto (tgt := 31) dL_realms_216 (by decide) ?_
      exact ih (k + 1) w g _ _ _ (by omega) hX hT hgn
    have hX : aX A (f, T ++ [arI G a 64 (cE S), arI G z 4 g]) := aX_of rfl hX
    have hT : (f, T ++ [arI G a 64 (cE S), arI G z 4 g]).2 = T ++ [arI G a 64 (cE S), arI G z 4 g] := rfl
    have at164 : ∀ y : Nat, ard S (nI r) k + y = ard S (nI r) (k + 1) → Ev G 22 (n + 1 + b) mL_realms 164 [some (.ref 0), some (dy a), v2, some (.int (nI r)), some (.int (nI (ct (fun c => sO S c == nI r) (k + 1)))), some (.int (nI (ard S (nI r) k))), some (.int (nI (ct (canB S (nI r)) k))), some (dy z), some (.int (nI (k))), some (.int (nI (inK S (nI r) k (nI r) 64))), some (.int (nI (64))), v11] [.int (nI y), .int (nI (ard S (nI r) k))] (f, T ++ [arI G a 64 (cE S), arI G z 4 g]) Z := by
      intro y hy
      refine ev_iadd dL_realms_164 ?_
      refine ev_top (nI_add _ _) ?_
      rw [hy]
      refine ev_ist5 dL_realms_165 (by decide) rfl ?_
      refine ev_aload_n dL_realms_167 rfl ?_
      refine ev_iload dL_realms_168 rfl ?_
      refine ev_iload_n dL_realms_170 rfl ?_
      refine ev_callS (w := (f, T ++ [arI G a 64 (cE S), arI G z 4 g])) kL_231 (as := [dy a, .int (nI k), .int (nI r)]) (rest := []) (gL_hinders (f := cE S) ho (by simp) (fun j hj => cE_at hj) hk64 hr) dL_realms_171 rfl (by decide) (Nat.zero_le _) rfl ?_
      refine ev_istore_g dL_realms_174 (by decide) rfl ?_
      refine ev_iload dL_realms_176 rfl ?_
      refine ev_iload dL_realms_178 rfl ?_
      have at188 : ∀ x : Nat, ct (canB S (nI r)) k + x = ct (canB S (nI r)) (k + 1) → Ev G 22 (n + 1 + b) mL_realms 188 [some (.ref 0), some (dy a), v2, some (.int (nI r)), some (.int (nI (ct (fun c => sO S c == nI r) (k + 1)))), some (.int (nI (ard S (nI r) (k + 1)))), some (.int (nI (ct (canB S (nI r)) k))), some (dy z), some (.int (nI (k))), some (.int (nI (inK S (nI r) k (nI r) 64))), some (.int (nI (shS S k (nI r)))), v11] [.int (nI x), .int (nI (ct (canB S (nI r)) k))] (f, T ++ [arI G a 64 (cE S), arI G z 4 g]) Z := by
        intro x hx
        refine ev_iadd dL_realms_188 ?_
        refine ev_top (nI_add _ _) ?_
        rw [hx]
        refine ev_ist6 dL_realms_189 (by decide) rfl ?_
        refine ev_aload_n dL_realms_191 rfl ?_
        refine ev_iload dL_realms_192 rfl ?_
        refine ev_iload_n dL_realms_194 rfl ?_
        refine ev_q kL_235 (as := [.ref 0, .int (nI k), .int (nI r)]) (rest := []) (hL_couldShave hX ((nI k)) ((nI r))) dL_realms_195 rfl (by decide) (by omega) rfl (fun w2 hX hT2 => ?_)
        rw [lc_cs hk64 hr, hS]
        replace hT := hT2.trans hT
        refine ev_iload dL_realms_198 rfl ?_
        by_cases h0 : shS S k (nI r) = 0
        · refine ev_if_ne_f (tgt := 207) dL_realms_200 (by decide) (by rw [h0]; rfl) ?_
          refine ev_iconst dL_realms_203 ic1 ?_
          refine ev_goto (tgt := 208) dL_realms_204 (by decide) ?_
          refine ev_icmp_eq_t (tgt := 213) dL_realms_208 (by decide) (by unfold canB; rw [decide_eq_true h0]; rfl) ?_
          exact ev_bu _ (by omega) (at213 _ _ hX hT)
        · refine ev_if_ne_t (tgt := 207) dL_realms_200 (by decide) (fun q => h0 ((nI_eq (by have := (shS_le S k (nI r)).1; omega) (by decide)).mp q)) ?_
          refine ev_iconst dL_realms_207 ic0 ?_
          refine ev_icmp_eq_t (tgt := 213) dL_realms_208 (by decide) (by unfold canB; rw [decide_eq_false h0]; rfl) ?_
          exact ev_bu _ (by omega) (at213 _ _ hX hT)
      by_cases h0 : shS S k (nI r) = 0
      · refine ev_if_ne_f (tgt := 187) dL_realms_180 (by decide) (by rw [h0]; rfl) ?_
        refine ev_iconst dL_realms_183 ic1 ?_
        refine ev_goto (tgt := 188) dL_realms_184 (by decide) ?_
        exact at188 1 (ct_t (decide_eq_true h0)).symm
      · refine ev_if_ne_t (tgt := 187) dL_realms_180 (by decide) (fun q => h0 ((nI_eq (by have := (shS_le S k (nI r)).1; omega) (by decide)).mp q)) ?_
        refine ev_iconst dL_realms_187 ic0 ?_
        exact at188 0 (by rw [ct_f (decide_eq_false h0)]; rfl)
    have at143 : ∀ x : Nat, ct (fun c => sO S c == nI r) k + x = ct (fun c => sO S c == nI r) (k + 1) → Ev G 22 (n + 1 + b) mL_realms 143 [some (.ref 0), some (dy a), v2, some (.int (nI r)), some (.int (nI (ct (fun c => sO S c == nI r) k))), some (.int (nI (ard S (nI r) k))), some (.int (nI (ct (canB S (nI r)) k))), some (dy z), some (.int (nI (k))), some (.int (nI (inK S (nI r) k (nI r) 64))), some (.int (nI (64))), v11] [.int (nI x), .int (nI (ct (fun c => sO S c == nI r) k))] (f, T ++ [arI G a 64 (cE S), arI G z 4 g]) Z := by
      intro x hx
      refine ev_iadd dL_realms_143 ?_
      refine ev_top (nI_add _ _) ?_
      rw [hx]
      refine ev_ist4 dL_realms_144 (by decide) rfl ?_
      refine ev_iload dL_realms_146 rfl ?_
      refine ev_aload_n dL_realms_148 rfl ?_
      refine ev_iload dL_realms_149 rfl ?_
      refine ev_ialoadT (w := (f, T ++ [arI G a 64 (cE S), arI G z 4 g])) (t := 0) (i := T.length) (f := cE S) tl0 dL_realms_151 rfl hk64 (by decide) ?_
      refine ev_top (cE_at hk64) ?_
      refine ev_iload_n dL_realms_152 rfl ?_
      by_cases e : sO S k = nI r
      · refine ev_icmp_ne_f (tgt := 163) dL_realms_153 (by decide) e ?_
        refine ev_iconst dL_realms_156 ic4 ?_
        refine ev_iload dL_realms_157 rfl ?_
        refine ev_isub dL_realms_159 ?_
        refine ev_top (y := nI (4 - nbK S k (nI r) 64)) (by unfold inK; rw [if_pos e, pk_sub (nbk_4 hk64 e hrm)]) ?_
        refine ev_goto (tgt := 164) dL_realms_160 (by decide) ?_
        exact at164 _ (by unfold ard; rw [sm_s, if_pos e])
      · refine ev_icmp_ne_t (tgt := 163) dL_realms_153 (by decide) e ?_
        refine ev_iconst dL_realms_163 ic0 ?_
        exact at164 0 (by unfold ard; rw [sm_s, if_neg e])
    refine ev_iload dL_realms_128 rfl ?_
    refine ev_aload_n dL_realms_130 rfl ?_
    refine ev_iload dL_realms_131 rfl ?_
    refine ev_ialoadT (w := (f, T ++ [arI G a 64 (cE S), arI G z 4 g])) (t := 0) (i := T.length) (f := cE S) tl0 dL_realms_133 rfl hk64 (by decide) ?_
    refine ev_top (cE_at hk64) ?_
    refine ev_iload_n dL_realms_134 rfl ?_
    by_cases e : sO S k = nI r
    · refine ev_icmp_ne_f (tgt := 142) dL_realms_135 (by decide) e ?_
      refine ev_iconst dL_realms_138 ic1 ?_
      refine ev_goto (tgt := 143) dL_realms_139 (by decide) ?_
      exact at143 1 (ct_t (by simp [e])).symm
    · refine ev_icmp_ne_t (tgt := 142) dL_realms_135 (by decide) e ?_
      refine ev_iconst dL_realms_142 ic0 ?_
      exact at143 0 (by rw [ct_f (by simp [e])]; rfl)
set_option maxRecDepth 8000 in
theorem gL_realms_c {G : GX} {b : Nat} {T : va_W} {A : AS} {S : ST} (hS : aS A = S) {a z r : Nat} (hr : r < 4) {g : Nat → Int32} (hg : ∀ i, i < 4 → g i = nI (prs S (nI r) (nI i) + prs S (nI i) (nI r))) {v2 v4 v5 v6 v10 v11 : Option Value} {Z : ZT}
    (K : ∀ (w : WS), aX A w → w.2 = T ++ [arI G a 64 (cE S), arI G z 4 g] → Ev G 22 b mL_realms 379 [some (.ref 0), some (dy a), v2, some (.int (nI r)), v4, v5, v6, some (dy z), some (.int (nI 1)), some (.int (nI (4))), v10, v11] [] w Z) :
    ∀ (n i : Nat) (w : WS), i + n = 4 → aX A w → w.2 = T ++ [arI G a 64 (cE S), arI G z 4 g] → Ev G 22 (3 * n + b) mL_realms 313 [some (.ref 0), some (dy a), v2, some (.int (nI r)), v4, v5, v6, some (dy z), some (.int (nI 1)), some (.int (nI (i))), v10, v11] [] w Z := by
  intro n
  induction n with
  | zero =>
    intro i w hi hX hT
    obtain rfl : i = 4 := by omega
    refine ev_iload dL_realms_313 rfl ?_
    refine ev_iconst dL_realms_315 ic4 ?_
    refine ev_icmp_ge_t (tgt := 379) dL_realms_316 (by decide) (Int32.le_refl _) ?_
    exact ev_bu _ (by omega) (K w hX hT)
  | succ n ih =>
    intro i w hk hX hT
    have hi : i < 4 := by omega
    have at346 : ∀ (w : WS), aX A w → w.2 = T ++ [arI G a 64 (cE S), arI G z 4 g] → Ev G 22 (3 * n + 2 + b) mL_realms 346 [some (.ref 0), some (dy a), v2, some (.int (nI r)), v4, v5, v6, some (dy z), some (.int (nI 1)), some (.int (nI (i))), v10, v11] [.int (nI (if r = i then 0 else prs S (nI r) (nI i) + prs S (nI i) (nI r))), .int (nI (if r = i then 0 else prs S (nI r) (nI i) + prs S (nI i) (nI r)))] w Z := by
      intro w hX hT
      refine ev_icmp_ne_f (tgt := 370) dL_realms_346 (by decide) rfl ?_
      refine ev_aload_n dL_realms_349 rfl ?_
      refine ev_iload dL_realms_350 rfl ?_
      refine ev_iload_n dL_realms_352 rfl ?_
      refine ev_q kL_251 (as := [.ref 0, .int (nI i), .int (nI r)]) (rest := []) (hL_border hX ((nI i)) ((nI r))) dL_realms_353 rfl (by decide) (by omega) rfl (fun w2 hX hT2 => ?_)
      rw [lc_bo hi hr, hS]
      replace hT := hT2.trans hT
      refine ev_aload_n dL_realms_356 rfl ?_
      refine ev_iload_n dL_realms_357 rfl ?_
      refine ev_iload dL_realms_358 rfl ?_
      refine ev_q kL_251 (as := [.ref 0, .int (nI r), .int (nI i)]) (rest := [.int (nI (if i = r then 0 else prs S (nI i) (nI r) + prs S (nI r) (nI i)))]) (hL_border hX ((nI r)) ((nI i))) dL_realms_360 rfl (by decide) (by omega) rfl (fun w2 hX hT2 => ?_)
      rw [lc_bo hr hi, hS]
      replace hT := hT2.trans hT
      refine ev_icmp_ne_f (tgt := 370) dL_realms_363 (by decide) (congrArg nI bo_sym) ?_
      refine ev_iconst dL_realms_366 ic1 ?_
      refine ev_goto (tgt := 371) dL_realms_367 (by decide) ?_
      refine ev_ist8 dL_realms_371 (by decide) rfl ?_
      refine ev_iinc9 dL_realms_373 (nI_inc _) (by decide) rfl ?_
      refine ev_goto (tgt := 313) dL_realms_376 (by decide) ?_
      exact ev_bu _ (by omega) (ih (i + 1) w2 (by omega) hX hT)
    refine ev_iload dL_realms_313 rfl ?_
    refine ev_iconst dL_realms_315 ic4 ?_
    refine ev_icmp_ge_f (tgt := 379) dL_realms_316 (by decide) (nI_ge hi (by decide)) ?_
    refine ev_iload dL_realms_319 rfl ?_
    refine ev_if_eq_f (tgt := 370) dL_realms_321 (by decide) (by decide) ?_
    refine ev_aload_n dL_realms_324 rfl ?_
    refine ev_iload_n dL_realms_325 rfl ?_
    refine ev_iload dL_realms_326 rfl ?_
    refine ev_q kL_251 (as := [.ref 0, .int (nI r), .int (nI i)]) (rest := []) (hL_border hX ((nI r)) ((nI i))) dL_realms_328 rfl (by decide) (by omega) rfl (fun w2 hX hT2 => ?_)
    rw [lc_bo hr hi, hS]
    replace hT := hT2.trans hT
    refine ev_iload dL_realms_331 rfl ?_
    refine ev_iload_n dL_realms_333 rfl ?_
    by_cases e : i = r
    · refine ev_icmp_ne_f (tgt := 341) dL_realms_334 (by decide) (by rw [e]) ?_
      refine ev_iconst dL_realms_337 ic0 ?_
      refine ev_goto (tgt := 346) dL_realms_338 (by decide) ?_
      refine ev_top (y := nI (if r = i then 0 else prs S (nI r) (nI i) + prs S (nI i) (nI r))) (by rw [if_pos e.symm]) ?_
      exact ev_bu _ (by omega) (at346 w2 hX hT)
    · refine ev_icmp_ne_t (tgt := 341) dL_realms_334 (by decide) (fun q => e ((nI_eq (by omega) (by omega)).mp q)) ?_
      refine ev_aload dL_realms_341 rfl ?_
      refine ev_iload dL_realms_343 rfl ?_
      refine ev_ialoadT (w := w2) (t := 0) (i := T.length + 1) (f := g) (by rw [hT]; exact tl1) dL_realms_345 rfl hi (by decide) ?_
      refine ev_top (y := nI (if r = i then 0 else prs S (nI r) (nI i) + prs S (nI i) (nI r))) (by rw [hg i hi, if_neg (fun q => e q.symm)]) ?_
      exact ev_bu _ (by omega) (at346 w2 hX hT)
set_option maxRecDepth 8000 in
theorem gL_realms_d {G : GX} {b : Nat} {T : va_W} {A : AS} {S : ST} (hS : aS A = S) (ho : okS S) {a : Nat} {Z : ZT}
    (K : ∀ (w : WS) (v4 v5 v6 v7 v8 v9 v10 v11 : Option Value), aX A w → w.2 = T ++ [arI G a 64 (cE S)] → Ev G 22 b mL_realms 392 [some (.ref 0), some (dy a), some (.int (nI (sm (fun r => cO S (nI r)) 4))), some (.int (nI 4)), v4, v5, v6, v7, v8, v9, v10, v11] [] w Z) :
    ∀ (n r : Nat) (w : WS) (v4 v5 v6 v7 v8 v9 v10 v11 : Option Value), r + n = 4 → aX A w → w.2 = T ++ [arI G a 64 (cE S)] → Ev G 22 (300 * n + b) mL_realms 9 [some (.ref 0), some (dy a), some (.int (nI (sm (fun r => cO S (nI r)) r))), some (.int (nI r)), v4, v5, v6, v7, v8, v9, v10, v11] [] w Z := by
  intro n
  induction n with
  | zero =>
    intro r w v4 v5 v6 v7 v8 v9 v10 v11 hr hX hT
    obtain rfl : r = 4 := by omega
    refine ev_iload_n dL_realms_9 rfl ?_
    refine ev_iconst dL_realms_10 ic4 ?_
    refine ev_icmp_ge_t (tgt := 392) dL_realms_11 (by decide) (Int32.le_refl _) ?_
    exact ev_bu _ (by omega) (K w _ _ _ _ _ _ _ _ hX hT)
  | succ n ih =>
    intro r w v4 v5 v6 v7 v8 v9 v10 v11 hrn hX hT
    have hr : r < 4 := by omega
    have hrm : nI r ≠ -1 := nI_m1 (by omega)
    refine ev_iload_n dL_realms_9 rfl ?_
    refine ev_iconst dL_realms_10 ic4 ?_
    refine ev_icmp_ge_f (tgt := 392) dL_realms_11 (by decide) (nI_ge hr (by decide)) ?_
    refine ev_iconst dL_realms_14 ic0 ?_
    refine ev_ist4 dL_realms_15 (by decide) rfl ?_
    refine ev_iconst dL_realms_17 ic0 ?_
    refine ev_ist5 dL_realms_18 (by decide) rfl ?_
    refine ev_iconst dL_realms_20 ic0 ?_
    refine ev_ist6 dL_realms_21 (by decide) rfl ?_
    refine ev_iconst dL_realms_23 ic4 ?_
    refine ev_newaT (at_ := .int) (t := 0) (zz := .inl (fun _ => 0)) ac_i rfl rfl ra_i (fun _ => rfl) (by decide) (by decide) (by omega) dL_realms_24 (fun z => ?_)
    refine ev_ast7 dL_realms_26 (by decide) rfl ?_
    refine ev_iconst dL_realms_28 ic0 ?_
    refine ev_ist8 dL_realms_29 (by decide) rfl ?_
    have hX : aX A (w.1, w.2 ++ [arI G z 4 (fun _ => 0)]) := aX_of rfl hX
    have hT : (w.1, w.2 ++ [arI G z 4 (fun _ => 0)]).2 = T ++ [arI G a 64 (cE S), arI G z 4 (fun _ => 0)] := by rw [hT]; simp
    refine ev_bu (64 + (300 * n + 220 + b)) (by omega) (gL_realms_b hS ho hr (fun w g v9 v10 v11 hX hT hg => ?_) 64 0 _ _ v9 v10 v11 rfl hX hT (fun i hi => rfl))
    have hg : ∀ i, i < 4 → g i = nI (prs S (nI r) (nI i) + prs S (nI i) (nI r)) := fun i hi => by rw [hg i hi, bdr_eq hrm (nI_m1 (by omega))]
    refine ev_iload_n dL_realms_219 rfl ?_
    refine ev_iload dL_realms_220 rfl ?_
    refine ev_iadd dL_realms_222 ?_
    refine ev_top (nI_add _ _) ?_
    refine ev_ist2 dL_realms_223 (by decide) rfl ?_
    refine ev_aload_n dL_realms_224 rfl ?_
    refine ev_iload_n dL_realms_225 rfl ?_
    refine ev_iconst dL_realms_226 ic0 ?_
    refine ev_q kL_237 (as := [.ref 0, .int (nI r), .int (nI 0)]) (rest := []) (hL_realmOf hX ((nI r)) ((nI 0))) dL_realms_227 rfl (by decide) (by omega) rfl (fun w2 hX hT2 => ?_)
    rw [lc_ro hr (by decide), hS, show roV S r 0 = nI (cO S (nI r)) from rfl]
    replace hT := hT2.trans hT
    refine ev_iload dL_realms_230 rfl ?_
    refine ev_icmp_ne_f (tgt := 307) dL_realms_232 (by decide) rfl ?_
    refine ev_aload_n dL_realms_235 rfl ?_
    refine ev_iload_n dL_realms_236 rfl ?_
    refine ev_q kL_239 (as := [.ref 0, .int (nI r)]) (rest := []) (hL_around hX ((nI r))) dL_realms_237 rfl (by decide) (by omega) rfl (fun w2 hX hT2 => ?_)
    rw [lc_ar hr, hS]
    replace hT := hT2.trans hT
    refine ev_iload dL_realms_240 rfl ?_
    refine ev_icmp_ne_f (tgt := 307) dL_realms_242 (by decide) (by rw [ard_eq hrm]) ?_
    refine ev_aload_n dL_realms_245 rfl ?_
    refine ev_iload_n dL_realms_246 rfl ?_
    refine ev_q kL_241 (as := [.ref 0, .int (nI r)]) (rest := []) (hL_aroundAgain hX ((nI r))) dL_realms_247 rfl (by decide) (by omega) rfl (fun w2 hX hT2 => ?_)
    rw [lc_ar hr, hS]
    replace hT := hT2.trans hT
    refine ev_iload dL_realms_250 rfl ?_
    refine ev_icmp_ne_f (tgt := 307) dL_realms_252 (by decide) (by rw [ard_eq hrm]) ?_
    refine ev_aload_n dL_realms_255 rfl ?_
    refine ev_iload_n dL_realms_256 rfl ?_
    refine ev_q kL_243 (as := [.ref 0, .int (nI r)]) (rest := []) (hL_shavable hX ((nI r))) dL_realms_257 rfl (by decide) (by omega) rfl (fun w2 hX hT2 => ?_)
    rw [lc_sh hr, hS]
    replace hT := hT2.trans hT
    refine ev_iload dL_realms_260 rfl ?_
    refine ev_icmp_ne_f (tgt := 307) dL_realms_262 (by decide) rfl ?_
    refine ev_aload_n dL_realms_265 rfl ?_
    refine ev_iload_n dL_realms_266 rfl ?_
    refine ev_q kL_245 (as := [.ref 0, .int (nI r)]) (rest := []) (hL_parts hX ((nI r))) dL_realms_267 rfl (by decide) (by omega) rfl (fun w2 hX hT2 => ?_)
    rw [lc_pa hr, hS]
    replace hT := hT2.trans hT
    refine ev_aload_n dL_realms_270 rfl ?_
    refine ev_iload_n dL_realms_271 rfl ?_
    refine ev_callSP kL_247 (as := [dy a, .int (nI r)]) (rest := [.int (nI (ccS S (nI r)))]) (gL_parts_ (f := cE S) (S := S) (by rw [hT]; simp) (fun j hj => cE_at hj)) dL_realms_272 rfl (by decide) (by omega) rfl (fun r0 wq hp => ?_)
    obtain ⟨rfl, rfl⟩ := hp
    refine ev_icmp_ne_f (tgt := 307) dL_realms_275 (by decide) rfl ?_
    refine ev_aload_n dL_realms_278 rfl ?_
    refine ev_iload_n dL_realms_279 rfl ?_
    refine ev_q kL_249 (as := [.ref 0, .int (nI r)]) (rest := []) (hL_partsAgain hX ((nI r))) dL_realms_280 rfl (by decide) (by omega) rfl (fun w2 hX hT2 => ?_)
    rw [lc_pa hr, hS]
    replace hT := hT2.trans hT
    refine ev_aload_n dL_realms_283 rfl ?_
    refine ev_iload_n dL_realms_284 rfl ?_
    refine ev_callSP kL_247 (as := [dy a, .int (nI r)]) (rest := [.int (nI (ccS S (nI r)))]) (gL_parts_ (f := cE S) (S := S) (by rw [hT]; simp) (fun j hj => cE_at hj)) dL_realms_285 rfl (by decide) (by omega) rfl (fun r0 wq hp => ?_)
    obtain ⟨rfl, rfl⟩ := hp
    refine ev_icmp_ne_f (tgt := 307) dL_realms_288 (by decide) rfl ?_
    refine ev_aload_n dL_realms_291 rfl ?_
    refine ev_iload_n dL_realms_292 rfl ?_
    refine ev_bipush (v := nI 6) dL_realms_293 (by decide) ?_
    refine ev_q kL_237 (as := [.ref 0, .int (nI r), .int (nI 6)]) (rest := []) (hL_realmOf hX ((nI r)) ((nI 6))) dL_realms_295 rfl (by decide) (by omega) rfl (fun w2 hX hT2 => ?_)
    rw [lc_ro6 hr]
    replace hT := hT2.trans hT
    refine ev_bipush (v := (-12)) dL_realms_298 (by decide) ?_
    refine ev_icmp_ne_f (tgt := 307) dL_realms_300 (by decide) rfl ?_
    refine ev_iconst dL_realms_303 ic1 ?_
    refine ev_goto (tgt := 308) dL_realms_304 (by decide) ?_
    refine ev_ist8 dL_realms_308 (by decide) rfl ?_
    refine ev_iconst dL_realms_310 ic0 ?_
    refine ev_ist9 dL_realms_311 (by decide) rfl ?_
    refine ev_bu (3 * 4 + (300 * n + b)) (by omega) (gL_realms_c hS hr hg (fun w hX hT => ?_) 4 0 _ rfl hX hT)
    refine ev_iload dL_realms_379 rfl ?_
    refine ev_if_ne_t (tgt := 386) dL_realms_381 (by decide) (by decide) ?_
    refine ev_iinc3 dL_realms_386 (nI_inc _) (by decide) rfl ?_
    refine ev_goto (tgt := 9) dL_realms_389 (by decide) ?_
    refine ev_tl (T' := T ++ [arI G a 64 (cE S)]) (by rw [hT, show T ++ [arI G a 64 (cE S), arI G z 4 g] = (T ++ [arI G a 64 (cE S)]) ++ [arI G z 4 g] by simp]; exact List.sublist_append_left _ _) ?_
    exact ih (r + 1) _ _ _ _ _ _ _ _ _ (by omega) (aX_of rfl hX) rfl
theorem nF_R (S : ST) : nF (fR S) (fun a => cO S (nI a)) 4 := fun i hi => ⟨rfl, by have := ct_le (fun c => sO S c == nI i) 64; show ct _ 64 < _; omega⟩
theorem nF_C {S : ST} (hc : cnS S) : ∃ cn, nF (sC S) cn 4 := by
  obtain ⟨cn, wn, ln, lc, h1, h2, h3, h4⟩ := hc
  exact ⟨cn, fun i hi => ⟨(h1 i hi).1, by have := cn_le (f := cn) hi; omega⟩⟩
set_option maxRecDepth 8000 in
theorem gL_realms_e {G : GX} {b : Nat} {T : va_W} {A : AS} {S : ST} (hS : aS A = S) (hc : cnS S) {a : Nat} {v2 : Int32} {v7 v8 v9 v10 v11 : Option Value} {Z : ZT}
    (K : ∀ (w : WS) (x : Int32) (v5 v6 : Option Value), aX A w → w.2 = T → Ev G 22 b mL_realms 497 [some (.ref 0), some (dy a), some (.int v2), some (.int x), some (.int (nI (4))), v5, v6, v7, v8, v9, v10, v11] [] w Z) :
    ∀ (n p : Nat) (w : WS) (x : Int32) (v5 v6 : Option Value), p + n = 4 → ((p = 0 ∧ x = -1) ∨ ∃ c, c < 4 ∧ x = nI c ∧ rk (fR S) (sC S) 4 c + 1 = p) → aX A w → w.2 = T → Ev G 22 (5 * n + b) mL_realms 397 [some (.ref 0), some (dy a), some (.int v2), some (.int x), some (.int (nI (p))), v5, v6, v7, v8, v9, v10, v11] [] w Z := by
  obtain ⟨cn, hH⟩ := nF_C hc
  have hF := nF_R S
  intro n
  induction n with
  | zero =>
    intro p w x v5 v6 hp hx hX hT
    obtain rfl : p = 4 := by omega
    refine ev_iload dL_realms_397 rfl ?_
    refine ev_iconst dL_realms_399 ic4 ?_
    refine ev_icmp_ge_t (tgt := 497) dL_realms_400 (by decide) (Int32.le_refl _) ?_
    exact ev_bu _ (by omega) (K w x v5 v6 hX hT)
  | succ n ih =>
    intro p w x v5 v6 hp hx hX hT
    have hp4 : p < 4 := by omega
    obtain ⟨c, hc4, hpl, hrk⟩ := plc_y (Nat.le_refl 4) hF hH hp4
    have at468 : ∀ (w : WS) (v : Int32) (v6 : Option Value), aX A w → w.2 = T → ¬ v < 0 → (v ≠ 0 ∨ x ≤ nI c) → Ev G 22 (5 * n + b) mL_realms 468 [some (.ref 0), some (dy a), some (.int v2), some (.int x), some (.int (nI (p))), some (.int (nI (c))), v6, v7, v8, v9, v10, v11] [.int v] w Z := by
      intro w v v6 hX hT h1 h2
      have at488 : Ev G 22 (5 * n + b) mL_realms 488 [some (.ref 0), some (dy a), some (.int v2), some (.int x), some (.int (nI (p))), some (.int (nI (c))), some (.int v), v7, v8, v9, v10, v11] [] w Z := by
        refine ev_iload dL_realms_488 rfl ?_
        refine ev_ist3 dL_realms_490 (by decide) rfl ?_
        refine ev_iinc4 dL_realms_491 (nI_inc _) (by decide) rfl ?_
        refine ev_goto (tgt := 397) dL_realms_494 (by decide) ?_
        exact ih (p + 1) w (nI c) _ _ (by omega) (Or.inr ⟨c, hc4, rfl, by rw [hrk]⟩) hX hT
      refine ev_ist6 dL_realms_468 (by decide) rfl ?_
      refine ev_iload dL_realms_470 rfl ?_
      refine ev_if_lt_f (tgt := 486) dL_realms_472 (by decide) h1 ?_
      refine ev_iload dL_realms_475 rfl ?_
      by_cases h0 : v = 0
      · refine ev_if_ne_f (tgt := 488) dL_realms_477 (by decide) h0 ?_
        have h3 : x ≤ nI c := by
          rcases h2 with h2 | h2
          · exact absurd h0 h2
          · exact h2
        refine ev_iload dL_realms_480 rfl ?_
        refine ev_iload_n dL_realms_482 rfl ?_
        refine ev_icmp_ge_t (tgt := 488) dL_realms_483 (by decide) h3 ?_
        exact at488
      · refine ev_if_ne_t (tgt := 488) dL_realms_477 (by decide) h0 ?_
        exact at488
    refine ev_iload dL_realms_397 rfl ?_
    refine ev_iconst dL_realms_399 ic4 ?_
    refine ev_icmp_ge_f (tgt := 497) dL_realms_400 (by decide) (nI_ge hp4 (by decide)) ?_
    refine ev_aload_n dL_realms_403 rfl ?_
    refine ev_iload dL_realms_404 rfl ?_
    refine ev_q kL_253 (as := [.ref 0, .int (nI p)]) (rest := []) (hL_ranked hX ((nI p))) dL_realms_406 rfl (by decide) (by omega) rfl (fun w2 hX hT2 => ?_)
    rw [hS, lc_rk hpl]
    replace hT := hT2.trans hT
    refine ev_ist5 dL_realms_409 (by decide) rfl ?_
    refine ev_iload dL_realms_411 rfl ?_
    refine ev_if_ge_t (tgt := 420) dL_realms_413 (by decide) (Int32.not_lt.mp (nI_pos (by omega))) ?_
    refine ev_iload_n dL_realms_420 rfl ?_
    rcases hx with ⟨rfl, rfl⟩ | ⟨q, hq4, rfl, hq⟩
    · refine ev_if_ge_f (tgt := 428) dL_realms_421 (by decide) (by decide) ?_
      refine ev_iconst dL_realms_424 ic1 ?_
      refine ev_goto (tgt := 442) dL_realms_425 (by decide) ?_
      refine ev_ist6 dL_realms_442 (by decide) rfl ?_
      refine ev_iload dL_realms_444 rfl ?_
      refine ev_if_eq_f (tgt := 454) dL_realms_446 (by decide) (by decide) ?_
      refine ev_iload dL_realms_449 rfl ?_
      refine ev_goto (tgt := 468) dL_realms_451 (by decide) ?_
      exact ev_bu _ (by omega) (at468 _ _ _ hX hT (by decide) (Or.inl (by decide)))
    · refine ev_if_ge_t (tgt := 428) dL_realms_421 (by decide) (Int32.not_lt.mp (nI_pos (by omega))) ?_
      have ha := (ahd_n hF hH hq4 hc4).mp (rk_tr hF hH hq4 hc4 (by omega))
      have hby := by_ok (hF q hq4).2 (hF c hc4).2 (hH q hq4).2 (hH c hc4).2 ha
      refine ev_aload_n dL_realms_428 rfl ?_
      refine ev_iload_n dL_realms_429 rfl ?_
      refine ev_iconst dL_realms_430 ic0 ?_
      refine ev_q kL_237 (as := [.ref 0, .int (nI q), .int (nI 0)]) (rest := []) (hL_realmOf hX ((nI q)) ((nI 0))) dL_realms_431 rfl (by decide) (by omega) rfl (fun w2 hX hT2 => ?_)
      rw [lc_ro hq4 (by decide), hS, show roV S q 0 = nI (cO S (nI q)) from rfl]
      replace hT := hT2.trans hT
      refine ev_aload_n dL_realms_434 rfl ?_
      refine ev_iload dL_realms_435 rfl ?_
      refine ev_iconst dL_realms_437 ic0 ?_
      refine ev_q kL_237 (as := [.ref 0, .int (nI c), .int (nI 0)]) (rest := [.int (nI (cO S (nI q)))]) (hL_realmOf hX ((nI c)) ((nI 0))) dL_realms_438 rfl (by decide) (by omega) rfl (fun w2 hX hT2 => ?_)
      rw [lc_ro hc4 (by decide), hS, show roV S c 0 = nI (cO S (nI c)) from rfl]
      replace hT := hT2.trans hT
      refine ev_isub dL_realms_441 ?_
      refine ev_ist6 dL_realms_442 (by decide) rfl ?_
      refine ev_iload dL_realms_444 rfl ?_
      rcases hby with ⟨h1, h2⟩ | ⟨h1, h2, h3⟩
      · refine ev_if_eq_f (tgt := 454) dL_realms_446 (by decide) h1 ?_
        refine ev_iload dL_realms_449 rfl ?_
        refine ev_goto (tgt := 468) dL_realms_451 (by decide) ?_
        exact ev_bu _ (by omega) (at468 _ _ _ hX hT h2 (Or.inl h1))
      · refine ev_if_eq_t (tgt := 454) dL_realms_446 (by decide) h1 ?_
        refine ev_aload_n dL_realms_454 rfl ?_
        refine ev_iload_n dL_realms_455 rfl ?_
        refine ev_iconst dL_realms_456 ic1 ?_
        refine ev_q kL_237 (as := [.ref 0, .int (nI q), .int (nI 1)]) (rest := []) (hL_realmOf hX ((nI q)) ((nI 1))) dL_realms_457 rfl (by decide) (by omega) rfl (fun w2 hX hT2 => ?_)
        rw [lc_ro hq4 (by decide), hS, show roV S q 1 = sC S q from rfl]
        replace hT := hT2.trans hT
        refine ev_top (hH q hq4).1 ?_
        refine ev_aload_n dL_realms_460 rfl ?_
        refine ev_iload dL_realms_461 rfl ?_
        refine ev_iconst dL_realms_463 ic1 ?_
        refine ev_q kL_237 (as := [.ref 0, .int (nI c), .int (nI 1)]) (rest := [.int (nI (cn q))]) (hL_realmOf hX ((nI c)) ((nI 1))) dL_realms_464 rfl (by decide) (by omega) rfl (fun w2 hX hT2 => ?_)
        rw [lc_ro hc4 (by decide), hS, show roV S c 1 = sC S c from rfl]
        replace hT := hT2.trans hT
        refine ev_top (hH c hc4).1 ?_
        refine ev_isub dL_realms_467 ?_
        refine ev_bu _ (by omega) (at468 _ _ _ hX hT h2 (h3.imp (fun h => h) (fun h => Int32.not_lt.mp (nI_nlt (Nat.not_lt.mp h) (by omega)))))
set_option maxRecDepth 8000 in
theorem gL_realms {G : GX} {w : WS} {A : AS} (hX : aX A w) (hc : cnS (aS A)) : BigP G 22 1800 mL_realms [.ref 0] w (fun r w2 => r = some (.int (nI 1)) ∧ aX A w2 ∧ w2.2 = w.2) := by
  refine bp_of (by decide +kernel) rfl (Nat.le_of_ble_eq_true rfl) ?_
  show Ev G 22 1800 mL_realms 0 [some (.ref 0), none, none, none, none, none, none, none, none, none, none, none] [] w _
  have ho := hX.1.2
  obtain ⟨cn, hH⟩ := nF_C hc
  have hpn := plc_n (Nat.le_refl 4) (nF_R (aS A)) hH
  refine ev_aload_n dL_realms_0 rfl ?_
  refine ev_callSP kL_227 (as := [.ref 0]) (rest := []) (gL_cells hX) dL_realms_1 rfl (by decide) (by decide) rfl (fun r0 w1 hp => ?_)
  obtain ⟨a, rfl, hX, hT⟩ := hp
  refine ev_ast1 dL_realms_4 (by decide) rfl ?_
  refine ev_iconst dL_realms_5 ic0 ?_
  refine ev_ist2 dL_realms_6 (by decide) rfl ?_
  refine ev_iconst dL_realms_7 ic0 ?_
  refine ev_ist3 dL_realms_8 (by decide) rfl ?_
  refine ev_bu (300 * 4 + 100) (by decide) (gL_realms_d (S := aS A) rfl ho (fun w1 v4 v5 v6 v7 v8 v9 v10 v11 hX hT => ?_) 4 0 w1 _ _ _ _ _ _ _ _ rfl hX hT)
  refine ev_iconst dL_realms_392 icm1 ?_
  refine ev_ist3 dL_realms_393 (by decide) rfl ?_
  refine ev_iconst dL_realms_394 ic0 ?_
  refine ev_ist4 dL_realms_395 (by decide) rfl ?_
  refine ev_bu (5 * 4 + 50) (by decide) (gL_realms_e (S := aS A) rfl hc (fun w1 x v5 v6 hX hT => ?_) 4 0 w1 (-1) v5 v6 rfl (Or.inl ⟨rfl, rfl⟩) hX hT)
  refine ev_aload_n dL_realms_497 rfl ?_
  refine ev_iconst dL_realms_498 ic0 ?_
  refine ev_qc kL_255 co0 (as := [.int (nI 0)]) (rest := []) (fX11_account_y (G := G) hX (i := 0) (by omega)) dL_realms_499 rfl (by decide) (by omega) rfl (fun w2 hX hT2 => ?_)
  rw [show acV A 0 = nI (64 - cO (aS A) (-1)) from rfl]
  replace hT := hT2.trans hT
  refine ev_iload_n dL_realms_502 rfl ?_
  refine ev_icmp_ne_f (tgt := 616) dL_realms_503 (by decide) (by rw [o_all ho]) ?_
  refine ev_aload_n dL_realms_506 rfl ?_
  refine ev_callV kL_258 co0 (as := []) (rest := []) (qX11_ownedShare hX.1) dL_realms_507 rfl (by decide) (by omega) rfl ?_
  refine ev_iload_n dL_realms_510 rfl ?_
  refine ev_i2f dL_realms_511 ?_
  refine ev_ldcwf cfL_262 dL_realms_512 ?_
  refine ev_fdiv dL_realms_515 (by rw [o_all ho]; exact (os_ok ⟨64 - cO (aS A) (-1), by omega⟩).1) ?_
  refine ev_fcmp dL_realms_516 ?_
  refine ev_top (y := 0) (by rw [o_all ho]; exact (os_ok ⟨64 - cO (aS A) (-1), by omega⟩).2) ?_
  refine ev_if_ne_f (tgt := 616) dL_realms_517 (by decide) rfl ?_
  refine ev_aload_n dL_realms_520 rfl ?_
  refine ev_iconst dL_realms_521 ic4 ?_
  refine ev_q kL_253 (as := [.ref 0, .int (nI 4)]) (rest := []) (hL_ranked hX ((nI 4))) dL_realms_522 rfl (by decide) (by omega) rfl (fun w2 hX hT2 => ?_)
  rw [lc_rkn hpn]
  replace hT := hT2.trans hT
  refine ev_bipush (v := (-15)) dL_realms_525 (by decide) ?_
  refine ev_icmp_ne_f (tgt := 616) dL_realms_527 (by decide) rfl ?_
  refine ev_aload_n dL_realms_530 rfl ?_
  refine ev_iconst dL_realms_531 ic0 ?_
  refine ev_iconst dL_realms_532 ic4 ?_
  refine ev_q kL_251 (as := [.ref 0, .int (nI 0), .int (nI 4)]) (rest := []) (hL_border hX ((nI 0)) ((nI 4))) dL_realms_533 rfl (by decide) (by omega) rfl (fun w2 hX hT2 => ?_)
  rw [lc_bo4 (by decide)]
  replace hT := hT2.trans hT
  refine ev_bipush (v := (-11)) dL_realms_536 (by decide) ?_
  refine ev_icmp_ne_f (tgt := 616) dL_realms_538 (by decide) rfl ?_
  refine ev_aload_n dL_realms_541 rfl ?_
  refine ev_iconst dL_realms_542 ic4 ?_
  refine ev_q kL_239 (as := [.ref 0, .int (nI 4)]) (rest := []) (hL_around hX ((nI 4))) dL_realms_543 rfl (by decide) (by omega) rfl (fun w2 hX hT2 => ?_)
  rw [lc_ar4]
  replace hT := hT2.trans hT
  refine ev_bipush (v := (-11)) dL_realms_546 (by decide) ?_
  refine ev_icmp_ne_f (tgt := 616) dL_realms_548 (by decide) rfl ?_
  refine ev_aload_n dL_realms_551 rfl ?_
  refine ev_iconst dL_realms_552 icm1 ?_
  refine ev_q kL_245 (as := [.ref 0, .int (-1)]) (rest := []) (hL_parts hX ((-1))) dL_realms_553 rfl (by decide) (by omega) rfl (fun w2 hX hT2 => ?_)
  rw [lc_paM]
  replace hT := hT2.trans hT
  refine ev_bipush (v := (-11)) dL_realms_556 (by decide) ?_
  refine ev_icmp_ne_f (tgt := 616) dL_realms_558 (by decide) rfl ?_
  refine ev_aload_n dL_realms_561 rfl ?_
  refine ev_iconst dL_realms_562 ic4 ?_
  refine ev_q kL_243 (as := [.ref 0, .int (nI 4)]) (rest := []) (hL_shavable hX ((nI 4))) dL_realms_563 rfl (by decide) (by omega) rfl (fun w2 hX hT2 => ?_)
  rw [lc_sh4]
  replace hT := hT2.trans hT
  refine ev_bipush (v := (-11)) dL_realms_566 (by decide) ?_
  refine ev_icmp_ne_f (tgt := 616) dL_realms_568 (by decide) rfl ?_
  refine ev_aload_n dL_realms_571 rfl ?_
  refine ev_bipush (v := nI 64) dL_realms_572 (by decide) ?_
  refine ev_iconst dL_realms_574 ic0 ?_
  refine ev_q kL_235 (as := [.ref 0, .int (nI 64), .int (nI 0)]) (rest := []) (hL_couldShave hX ((nI 64)) ((nI 0))) dL_realms_575 rfl (by decide) (by omega) rfl (fun w2 hX hT2 => ?_)
  rw [lc_cs64]
  replace hT := hT2.trans hT
  refine ev_bipush (v := (-11)) dL_realms_578 (by decide) ?_
  refine ev_icmp_ne_f (tgt := 616) dL_realms_580 (by decide) rfl ?_
  refine ev_aload_n dL_realms_583 rfl ?_
  refine ev_iconst dL_realms_584 ic0 ?_
  refine ev_iconst dL_realms_585 ic4 ?_
  refine ev_q kL_235 (as := [.ref 0, .int (nI 0), .int (nI 4)]) (rest := []) (hL_couldShave hX ((nI 0)) ((nI 4))) dL_realms_586 rfl (by decide) (by omega) rfl (fun w2 hX hT2 => ?_)
  rw [lc_cs4 (by decide)]
  replace hT := hT2.trans hT
  refine ev_bipush (v := (-11)) dL_realms_589 (by decide) ?_
  refine ev_icmp_ne_f (tgt := 616) dL_realms_591 (by decide) rfl ?_
  refine ev_aload_n dL_realms_594 rfl ?_
  refine ev_bipush (v := nI 64) dL_realms_595 (by decide) ?_
  refine ev_q kL_195 (as := [.ref 0, .int (nI 64)]) (rest := []) (hL_realmAt hX ((nI 64))) dL_realms_597 rfl (by decide) (by omega) rfl (fun w2 hX hT2 => ?_)
  rw [lc_at64]
  replace hT := hT2.trans hT
  refine ev_bipush (v := (-11)) dL_realms_600 (by decide) ?_
  refine ev_icmp_ne_f (tgt := 616) dL_realms_602 (by decide) rfl ?_
  refine ev_aload_n dL_realms_605 rfl ?_
  obtain ⟨oq, wq, ⟨rfl, hfq⟩, hBq⟩ := qX11_isTrue (G := G) hX.1 hc
  refine ev_callV kL_263 co0 (as := []) (rest := []) hBq dL_realms_606 rfl (by decide) (Nat.zero_le _) rfl ?_
  have hX : aX A wq := aXG hX hfq (by decide)
  have hT := hfq.2.trans hT
  refine ev_if_eq_f (tgt := 616) dL_realms_609 (by decide) (by decide) ?_
  refine ev_iconst dL_realms_612 ic1 ?_
  refine ev_goto (tgt := 617) dL_realms_613 (by decide) ?_
  refine ev_tl (T' := w.2) (by rw [hT]; exact List.sublist_append_left _ _) ?_
  exact ev_iretP dL_realms_617 rfl (by decide) ⟨rfl, aX_of rfl hX, rfl⟩
