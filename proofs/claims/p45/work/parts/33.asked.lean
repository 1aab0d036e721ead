/-! what is asked of a map -/
def ixN (n : Nat) (x : Int32) : Option Nat := if x < 0 ∨ nI n ≤ x then none else some (oN_ x)
theorem ixN_or (n : Nat) (hn : n < 2 ^ 31) (x : Int32) : (out_ n x ∧ ixN n x = none) ∨ ∃ j, j < n ∧ x = nI j ∧ ixN n x = some j := by
  rcases out_or x hn with h | ⟨j, hj, rfl⟩
  · exact Or.inl ⟨h, if_pos h⟩
  · refine Or.inr ⟨j, hj, rfl, ?_⟩
    unfold ixN
    rw [if_neg, oN_nI (by omega)]
    rintro (q | q)
    · exact nI_pos (by omega) q
    · exact nI_ge hj hn q
/-- what a call comes to: the number of its exception and none's answer -/
def cOut (es : List String) (r : Nat × Int32) : OT := if r.1 = 0 then .inl (some (.int r.2)) else .inr (es.getD (r.1 - 1) "")
def qAt (S : ST) (x : Int32) : Nat × Int32 := match ixN 64 x with
  | none => (1, 0)
  | some c => (0, sO S c)
def roV (S : ST) (r k : Nat) : Int32 := if k = 0 then nI (cO S (nI r)) else if k = 1 then sC S r else if k = 2 then nI (dOf S (nI r)) else if k = 3 then sW S r else if k = 4 then sL S r else nI (thr S (nI r))
def qRo (S : ST) (x y : Int32) : Nat × Int32 := match ixN 4 x with
  | none => (1, 0)
  | some r => match ixN 6 y with
    | none => (2, 0)
    | some k => (0, roV S r k)
def rvV (S : ST) (i k : Nat) : Int32 := if k = 0 then nI (rP S i 0) else if k = 1 then nI (rN S i) else if k = 2 then nI (rP S i (rN S i)) else if k = 3 then nI (rT S i) else if k = 4 then nI (rN S i) * sM S 0 else nI (ct (xs S i) (rN S i))
def qRv (S : ST) (x y : Int32) : Nat × Int32 := match ixN (nR S) x with
  | none => (1, 0)
  | some i => match ixN 6 y with
    | none => (2, 0)
    | some k => (0, rvV S i k)
def qRa (S : ST) (x y : Int32) : Nat × Int32 := match ixN (nR S) x with
  | none => (1, 0)
  | some i => match ixN (rN S i + 1) y with
    | none => (2, 0)
    | some p => (0, nI (rP S i p))
def drV (S : ST) (i k : Nat) : Int32 := if k = 0 then nI (dC S i) else if k = 1 then nI (dP S i) else nI (dQ S i)
def qDr (S : ST) (x y : Int32) : Nat × Int32 := match ixN (nD S) x with
  | none => (1, 0)
  | some i => match ixN 3 y with
    | none => (2, 0)
    | some k => (0, drV S i k)
def qWe (S : ST) (x : Int32) : Nat × Int32 := match ixN (nR S) x with
  | none => (1, 0)
  | some i => (0, nI (wgt S i))
def qBo (S : ST) (x y : Int32) : Nat × Int32 := match ixN 4 x with
  | none => (1, 0)
  | some r => match ixN 4 y with
    | none => (1, 0)
    | some n => (0, nI (if nI r = nI n then 0 else prs S (nI r) (nI n) + prs S (nI n) (nI r)))
def qAr (S : ST) (x : Int32) : Nat × Int32 := match ixN 4 x with
  | none => (1, 0)
  | some r => (0, nI (sbs S (nI r)))
noncomputable def qPa (S : ST) (x : Int32) : Nat × Int32 := match ixN 4 x with
  | none => (1, 0)
  | some r => (0, nI (ccS S (nI r)))
def canB (S : ST) (r : Int32) (c : Nat) : Bool := decide (shS S c r = 0)
def qCs (S : ST) (x y : Int32) : Nat × Int32 := match ixN 64 x with
  | none => (1, 0)
  | some c => match ixN 4 y with
    | none => (1, 0)
    | some r => (0, bI (canB S (nI r) c))
def qSh (S : ST) (x : Int32) : Nat × Int32 := match ixN 4 x with
  | none => (1, 0)
  | some r => (0, nI (ct (canB S (nI r)) 64))
def qLi (S : ST) (b : Bool) (x : Int32) : Nat × Int32 := match ixN 8 x with
  | none => (1, 0)
  | some c => if c = 0 then (1, 0) else (0, nI (lys S b c))
/-- the first of 1 .. n that tells the fewest -/
def bst (f : Nat → Nat) : Nat → Nat
  | 0 => 1
  | n + 1 => if n = 0 then 1 else if f (n + 1) < f (bst f n) then n + 1 else bst f n
def qBs (S : ST) : Nat × Int32 := if nR S = 0 then (1, 0) else (0, nI (bst (awr S) 9))
def qRk (S : ST) (x : Int32) : Nat × Int32 := match plc (fR S) (sC S) 4 x with
  | none => (1, 0)
  | some a => (0, nI a)
def qHv (S : ST) (x : Int32) : Nat × Int32 := match plc (fV S) (gV S) (nR S) x with
  | none => (1, 0)
  | some a => (0, nI a)
theorem bst_le (f : Nat → Nat) (n : Nat) (h : 1 ≤ n) : 1 ≤ bst f n ∧ bst f n ≤ n := by
  induction n with
  | zero => omega
  | succ n ih =>
    unfold bst
    by_cases e : n = 0
    · rw [if_pos e]; omega
    · rw [if_neg e]
      have := ih (by omega)
      split <;> omega
theorem bst_s (f : Nat → Nat) {n : Nat} (h : 1 ≤ n) : bst f (n + 1) = if f (n + 1) < f (bst f n) then n + 1 else bst f n := by
  rw [bst, if_neg (by omega)]
set_option maxRecDepth 4000 in
theorem qX11_realmAt_n {G : GX} {w : WS} {S : ST} (hS : cm_ S w) {x : Int32} (hx : out_ 64 x) : Big G 3 1 mX11_realmAt [.ref 0, .int x] w (.inr "java/lang/IndexOutOfBoundsException") w := by
  refine big_of (by decide +kernel) (Nat.le_of_ble_eq_true rfl) ?_
  have hS0 := hS
  obtain ⟨hO, hC, hR, hRv, hD, hDv, hM0, hM1, hM2, hM3, hM4⟩ := cm_cells hS
  obtain ⟨hch, hk1, hk2, hk3, hk4⟩ := hS
  have h5 := hk2.1
  have h6 := hk3.1
  show Ev G 3 1 mX11_realmAt 0 [some (.ref 0), some (.int x)] [] w _
  refine ev_iload_n dX11_realmAt_0 rfl ?_
  exact ev_callSx kX11_74 (qX11_needCell_n hx) dX11_realmAt_1 rfl (by decide) (by decide) rfl rfl
set_option maxRecDepth 4000 in
theorem qX11_realmAt_y {G : GX} {w : WS} {S : ST} (hS : cm_ S w) {c : Nat} (hc : c < 64) : Big G 3 1 mX11_realmAt [.ref 0, .int (nI c)] w (.inl (some (.int (sO S c)))) w := by
  refine big_of (by decide +kernel) (Nat.le_of_ble_eq_true rfl) ?_
  have hS0 := hS
  obtain ⟨hO, hC, hR, hRv, hD, hDv, hM0, hM1, hM2, hM3, hM4⟩ := cm_cells hS
  obtain ⟨hch, hk1, hk2, hk3, hk4⟩ := hS
  have h5 := hk2.1
  have h6 := hk3.1
  show Ev G 3 1 mX11_realmAt 0 [some (.ref 0), some (.int (nI c))] [] w _
  refine ev_iload_n dX11_realmAt_0 rfl ?_
  refine ev_callS kX11_74 (qX11_needCell_y hc) dX11_realmAt_1 rfl (by decide) (by decide) rfl ?_
  refine ev_aload_n dX11_realmAt_4 rfl ?_
  refine ev_getR fX11_10 dX11_realmAt_5 (by decide) sh0 rfl ?_
  refine ev_iload_n dX11_realmAt_8 rfl ?_
  refine ev_callV kX11_130 co1 (qX1_ownerAt_y hS0 hc) dX11_realmAt_9 rfl (by decide) (by decide) rfl ?_
  exact ev_iret dX11_realmAt_12 rfl rfl rfl rfl
theorem qX11_realmAt {G : GX} {w : WS} {S : ST} (hS : cm_ S w) (x : Int32) : Big G 3 1 mX11_realmAt [.ref 0, .int x] w (cOut ["java/lang/IndexOutOfBoundsException"] (qAt S x)) w := by
  unfold qAt
  rcases ixN_or 64 (by decide) x with ⟨h1, e1⟩ | ⟨c, h1, rfl, e1⟩
  · rw [e1]; exact qX11_realmAt_n hS h1
  · rw [e1]; exact qX11_realmAt_y hS h1
set_option maxRecDepth 4000 in
theorem qX11_realmOf_n {G : GX} {w : WS} {S : ST} (hS : cm_ S w) {x : Int32} (hx : out_ 4 x) (y : Int32) : Big G 5 1 mX11_realmOf [.ref 0, .int x, .int y] w (.inr "java/lang/IndexOutOfBoundsException") w := by
  refine big_of (by decide +kernel) (Nat.le_of_ble_eq_true rfl) ?_
  have hS0 := hS
  obtain ⟨hO, hC, hR, hRv, hD, hDv, hM0, hM1, hM2, hM3, hM4⟩ := cm_cells hS
  obtain ⟨hch, hk1, hk2, hk3, hk4⟩ := hS
  have h5 := hk2.1
  have h6 := hk3.1
  show Ev G 5 1 mX11_realmOf 0 [some (.ref 0), some (.int x), some (.int y)] [] w _
  refine ev_iload_n dX11_realmOf_0 rfl ?_
  exact ev_callSx kX11_97 (qX11_needRealm_n hx) dX11_realmOf_1 rfl (by decide) (by decide) rfl rfl
set_option maxRecDepth 4000 in
theorem qX11_realmOf_m {G : GX} {w : WS} {S : ST} (hS : cm_ S w) {r : Nat} (hr : r < 4) {y : Int32} (hy : out_ 6 y) : Big G 5 1 mX11_realmOf [.ref 0, .int (nI r), .int y] w (.inr "java/lang/IllegalArgumentException") w := by
  refine big_of (by decide +kernel) (Nat.le_of_ble_eq_true rfl) ?_
  have hS0 := hS
  obtain ⟨hO, hC, hR, hRv, hD, hDv, hM0, hM1, hM2, hM3, hM4⟩ := cm_cells hS
  obtain ⟨hch, hk1, hk2, hk3, hk4⟩ := hS
  have h5 := hk2.1
  have h6 := hk3.1
  show Ev G 5 1 mX11_realmOf 0 [some (.ref 0), some (.int (nI r)), some (.int y)] [] w _
  refine ev_iload_n dX11_realmOf_0 rfl ?_
  refine ev_callS kX11_97 (qX11_needRealm_y hr) dX11_realmOf_1 rfl (by decide) (by decide) rfl ?_
  refine ev_iload_n dX11_realmOf_4 rfl ?_
  refine ev_tableOut (tgt := 101) dX11_realmOf_5 (by
        rcases hy with q | q
        · left
          rw [Int32.lt_iff_toInt_lt] at q
          exact q
        · right
          rw [Int32.le_iff_toInt_le] at q
          have e : (nI 6).toInt = 6 := by decide
          omega) (by decide) ?_
  exact ev_throw tX11_82_156_86 dX11_realmOf_101 dX11_realmOf_104 dX11_realmOf_105 dX11_realmOf_107 dX11_realmOf_110 (by decide) rfl rfl
set_option maxRecDepth 4000 in
theorem qX11_realmOf_0 {G : GX} {w : WS} {S : ST} (hS : cm_ S w) {r : Nat} (hr : r < 4) : Big G 5 1 mX11_realmOf [.ref 0, .int (nI r), .int (nI 0)] w (.inl (some (.int (nI (cO S (nI r)))))) w := by
  refine big_of (by decide +kernel) (Nat.le_of_ble_eq_true rfl) ?_
  have hS0 := hS
  obtain ⟨hO, hC, hR, hRv, hD, hDv, hM0, hM1, hM2, hM3, hM4⟩ := cm_cells hS
  obtain ⟨hch, hk1, hk2, hk3, hk4⟩ := hS
  have h5 := hk2.1
  have h6 := hk3.1
  show Ev G 5 1 mX11_realmOf 0 [some (.ref 0), some (.int (nI r)), some (.int (nI 0))] [] w _
  refine ev_iload_n dX11_realmOf_0 rfl ?_
  refine ev_callS kX11_97 (qX11_needRealm_y hr) dX11_realmOf_1 rfl (by decide) (by decide) rfl ?_
  refine ev_iload_n dX11_realmOf_4 rfl ?_
  refine ev_tableIn (tgt := 44) (off := 39) dX11_realmOf_5 (by decide) (by decide) (by decide +kernel) (by decide) ?_
  refine ev_aload_n dX11_realmOf_44 rfl ?_
  refine ev_getR fX11_10 dX11_realmOf_45 (by decide) sh0 rfl ?_
  refine ev_iload_n dX11_realmOf_48 rfl ?_
  refine ev_callV kX11_134 co1 (qX1_cellsOf hS0) dX11_realmOf_49 rfl (by decide) (by decide) rfl ?_
  exact ev_iret dX11_realmOf_52 rfl rfl rfl rfl
set_option maxRecDepth 4000 in
theorem qX11_realmOf_1 {G : GX} {w : WS} {S : ST} (hS : cm_ S w) {r : Nat} (hr : r < 4) : Big G 5 1 mX11_realmOf [.ref 0, .int (nI r), .int (nI 1)] w (.inl (some (.int (sC S r)))) w := by
  refine big_of (by decide +kernel) (Nat.le_of_ble_eq_true rfl) ?_
  have hS0 := hS
  obtain ⟨hO, hC, hR, hRv, hD, hDv, hM0, hM1, hM2, hM3, hM4⟩ := cm_cells hS
  obtain ⟨hch, hk1, hk2, hk3, hk4⟩ := hS
  have h5 := hk2.1
  have h6 := hk3.1
  show Ev G 5 1 mX11_realmOf 0 [some (.ref 0), some (.int (nI r)), some (.int (nI 1))] [] w _
  refine ev_iload_n dX11_realmOf_0 rfl ?_
  refine ev_callS kX11_97 (qX11_needRealm_y hr) dX11_realmOf_1 rfl (by decide) (by decide) rfl ?_
  refine ev_iload_n dX11_realmOf_4 rfl ?_
  refine ev_tableIn (tgt := 53) (off := 48) dX11_realmOf_5 (by decide) (by decide) (by decide +kernel) (by decide) ?_
  refine ev_aload_n dX11_realmOf_53 rfl ?_
  refine ev_getR fX11_10 dX11_realmOf_54 (by decide) sh0 rfl ?_
  refine ev_getR fX11_137 dX11_realmOf_57 (by decide) sh1 rfl ?_
  refine ev_iload_n dX11_realmOf_60 rfl ?_
  refine ev_iaload dX11_realmOf_61 rfl (by omega) (by decide) sh3 ?_
  refine ev_top (hC r hr).1 ?_
  exact ev_iret dX11_realmOf_62 rfl rfl rfl rfl
set_option maxRecDepth 4000 in
theorem qX11_realmOf_2 {G : GX} {w : WS} {S : ST} (hS : cm_ S w) {r : Nat} (hr : r < 4) : Big G 5 1 mX11_realmOf [.ref 0, .int (nI r), .int (nI 2)] w (.inl (some (.int (nI (dOf S (nI r)))))) w := by
  refine big_of (by decide +kernel) (Nat.le_of_ble_eq_true rfl) ?_
  have hS0 := hS
  obtain ⟨hO, hC, hR, hRv, hD, hDv, hM0, hM1, hM2, hM3, hM4⟩ := cm_cells hS
  obtain ⟨hch, hk1, hk2, hk3, hk4⟩ := hS
  have h5 := hk2.1
  have h6 := hk3.1
  show Ev G 5 1 mX11_realmOf 0 [some (.ref 0), some (.int (nI r)), some (.int (nI 2))] [] w _
  refine ev_iload_n dX11_realmOf_0 rfl ?_
  refine ev_callS kX11_97 (qX11_needRealm_y hr) dX11_realmOf_1 rfl (by decide) (by decide) rfl ?_
  refine ev_iload_n dX11_realmOf_4 rfl ?_
  refine ev_tableIn (tgt := 63) (off := 58) dX11_realmOf_5 (by decide) (by decide) (by decide +kernel) (by decide) ?_
  refine ev_aload_n dX11_realmOf_63 rfl ?_
  refine ev_getR fX11_10 dX11_realmOf_64 (by decide) sh0 rfl ?_
  refine ev_iload_n dX11_realmOf_67 rfl ?_
  refine ev_callV kX11_141 co1 (qX1_dragonsOf hS0) dX11_realmOf_68 rfl (by decide) (by decide) rfl ?_
  exact ev_iret dX11_realmOf_71 rfl rfl rfl rfl
set_option maxRecDepth 4000 in
theorem qX11_realmOf_3 {G : GX} {w : WS} {S : ST} (hS : cm_ S w) {r : Nat} (hr : r < 4) : Big G 5 1 mX11_realmOf [.ref 0, .int (nI r), .int (nI 3)] w (.inl (some (.int (sW S r)))) w := by
  refine big_of (by decide +kernel) (Nat.le_of_ble_eq_true rfl) ?_
  have hS0 := hS
  obtain ⟨hO, hC, hR, hRv, hD, hDv, hM0, hM1, hM2, hM3, hM4⟩ := cm_cells hS
  obtain ⟨hch, hk1, hk2, hk3, hk4⟩ := hS
  have h5 := hk2.1
  have h6 := hk3.1
  show Ev G 5 1 mX11_realmOf 0 [some (.ref 0), some (.int (nI r)), some (.int (nI 3))] [] w _
  refine ev_iload_n dX11_realmOf_0 rfl ?_
  refine ev_callS kX11_97 (qX11_needRealm_y hr) dX11_realmOf_1 rfl (by decide) (by decide) rfl ?_
  refine ev_iload_n dX11_realmOf_4 rfl ?_
  refine ev_tableIn (tgt := 72) (off := 67) dX11_realmOf_5 (by decide) (by decide) (by decide +kernel) (by decide) ?_
  refine ev_aload_n dX11_realmOf_72 rfl ?_
  refine ev_getR fX11_10 dX11_realmOf_73 (by decide) sh0 rfl ?_
  refine ev_getR fX11_144 dX11_realmOf_76 (by decide) sh1 rfl ?_
  refine ev_iload_n dX11_realmOf_79 rfl ?_
  refine ev_iaload dX11_realmOf_80 rfl (by omega) (by decide) sh4 ?_
  refine ev_top (hC r hr).2.1 ?_
  exact ev_iret dX11_realmOf_81 rfl rfl rfl rfl
set_option maxRecDepth 4000 in
theorem qX11_realmOf_4 {G : GX} {w : WS} {S : ST} (hS : cm_ S w) {r : Nat} (hr : r < 4) : Big G 5 1 mX11_realmOf [.ref 0, .int (nI r), .int (nI 4)] w (.inl (some (.int (sL S r)))) w := by
  refine big_of (by decide +kernel) (Nat.le_of_ble_eq_true rfl) ?_
  have hS0 := hS
  obtain ⟨hO, hC, hR, hRv, hD, hDv, hM0, hM1, hM2, hM3, hM4⟩ := cm_cells hS
  obtain ⟨hch, hk1, hk2, hk3, hk4⟩ := hS
  have h5 := hk2.1
  have h6 := hk3.1
  show Ev G 5 1 mX11_realmOf 0 [some (.ref 0), some (.int (nI r)), some (.int (nI 4))] [] w _
  refine ev_iload_n dX11_realmOf_0 rfl ?_
  refine ev_callS kX11_97 (qX11_needRealm_y hr) dX11_realmOf_1 rfl (by decide) (by decide) rfl ?_
  refine ev_iload_n dX11_realmOf_4 rfl ?_
  refine ev_tableIn (tgt := 82) (off := 77) dX11_realmOf_5 (by decide) (by decide) (by decide +kernel) (by decide) ?_
  refine ev_aload_n dX11_realmOf_82 rfl ?_
  refine ev_getR fX11_10 dX11_realmOf_83 (by decide) sh0 rfl ?_
  refine ev_getR fX11_147 dX11_realmOf_86 (by decide) sh1 rfl ?_
  refine ev_iload_n dX11_realmOf_89 rfl ?_
  refine ev_iaload dX11_realmOf_90 rfl (by omega) (by decide) sh5 ?_
  refine ev_top (hC r hr).2.2 ?_
  exact ev_iret dX11_realmOf_91 rfl rfl rfl rfl
set_option maxRecDepth 4000 in
theorem qX11_realmOf_5 {G : GX} {w : WS} {S : ST} (hS : cm_ S w) {r : Nat} (hr : r < 4) : Big G 5 1 mX11_realmOf [.ref 0, .int (nI r), .int (nI 5)] w (.inl (some (.int (nI (thr S (nI r)))))) w := by
  refine big_of (by decide +kernel) (Nat.le_of_ble_eq_true rfl) ?_
  have hS0 := hS
  obtain ⟨hO, hC, hR, hRv, hD, hDv, hM0, hM1, hM2, hM3, hM4⟩ := cm_cells hS
  obtain ⟨hch, hk1, hk2, hk3, hk4⟩ := hS
  have h5 := hk2.1
  have h6 := hk3.1
  show Ev G 5 1 mX11_realmOf 0 [some (.ref 0), some (.int (nI r)), some (.int (nI 5))] [] w _
  refine ev_iload_n dX11_realmOf_0 rfl ?_
  refine ev_callS kX11_97 (qX11_needRealm_y hr) dX11_realmOf_1 rfl (by decide) (by decide) rfl ?_
  refine ev_iload_n dX11_realmOf_4 rfl ?_
  refine ev_tableIn (tgt := 92) (off := 87) dX11_realmOf_5 (by decide) (by decide) (by decide +kernel) (by decide) ?_
  refine ev_aload_n dX11_realmOf_92 rfl ?_
  refine ev_getR fX11_10 dX11_realmOf_93 (by decide) sh0 rfl ?_
  refine ev_iload_n dX11_realmOf_96 rfl ?_
  refine ev_callS kX11_150 (qX10_throughRealm hS0) dX11_realmOf_97 rfl (by decide) (by decide) rfl ?_
  exact ev_iret dX11_realmOf_100 rfl rfl rfl rfl
theorem qX11_realmOf {G : GX} {w : WS} {S : ST} (hS : cm_ S w) (x y : Int32) : Big G 5 1 mX11_realmOf [.ref 0, .int x, .int y] w (cOut ["java/lang/IndexOutOfBoundsException", "java/lang/IllegalArgumentException"] (qRo S x y)) w := by
  unfold qRo
  rcases ixN_or 4 (by decide) x with ⟨h1, e1⟩ | ⟨r, h1, rfl, e1⟩
  · rw [e1]; exact qX11_realmOf_n hS h1 y
  · rw [e1]
    dsimp only
    rcases ixN_or 6 (by decide) y with ⟨h2, e2⟩ | ⟨k, h2, rfl, e2⟩
    · rw [e2]; exact qX11_realmOf_m hS h1 h2
    · rw [e2]
      obtain rfl | rfl | rfl | rfl | rfl | rfl : k = 0 ∨ k = 1 ∨ k = 2 ∨ k = 3 ∨ k = 4 ∨ k = 5 := by omega
      · exact qX11_realmOf_0 hS h1
      · exact qX11_realmOf_1 hS h1
      · exact qX11_realmOf_2 hS h1
      · exact qX11_realmOf_3 hS h1
      · exact qX11_realmOf_4 hS h1
      · exact qX11_realmOf_5 hS h1
set_option maxRecDepth 4000 in
theorem qX11_riverOf_n {G : GX} {w : WS} {S : ST} (hS : cm_ S w) {x : Int32} (hx : out_ (nR S) x) (y : Int32) : Big G 5 1 mX11_riverOf [.ref 0, .int x, .int y] w (.inr "java/lang/IndexOutOfBoundsException") w := by
  refine big_of (by decide +kernel) (Nat.le_of_ble_eq_true rfl) ?_
  have hS0 := hS
  obtain ⟨hO, hC, hR, hRv, hD, hDv, hM0, hM1, hM2, hM3, hM4⟩ := cm_cells hS
  obtain ⟨hch, hk1, hk2, hk3, hk4⟩ := hS
  have h5 := hk2.1
  have h6 := hk3.1
  show Ev G 5 1 mX11_riverOf 0 [some (.ref 0), some (.int x), some (.int y), none] [] w _
  refine ev_aload_n dX11_riverOf_0 rfl ?_
  refine ev_iload_n dX11_riverOf_1 rfl ?_
  exact ev_callVx kX11_119 co0 (qX11_needRiver_n hS0 hx) dX11_riverOf_2 rfl (by decide) (by decide) rfl rfl
set_option maxRecDepth 4000 in
theorem qX11_riverOf_m {G : GX} {w : WS} {S : ST} (hS : cm_ S w) {r : Nat} (hr : r < nR S) {y : Int32} (hy : out_ 6 y) : Big G 5 1 mX11_riverOf [.ref 0, .int (nI r), .int y] w (.inr "java/lang/IllegalArgumentException") w := by
  refine big_of (by decide +kernel) (Nat.le_of_ble_eq_true rfl) ?_
  have hS0 := hS
  obtain ⟨hO, hC, hR, hRv, hD, hDv, hM0, hM1, hM2, hM3, hM4⟩ := cm_cells hS
  obtain ⟨hch, hk1, hk2, hk3, hk4⟩ := hS
  have h5 := hk2.1
  have h6 := hk3.1
  show Ev G 5 1 mX11_riverOf 0 [some (.ref 0), some (.int (nI r)), some (.int y), none] [] w _
  refine ev_aload_n dX11_riverOf_0 rfl ?_
  refine ev_iload_n dX11_riverOf_1 rfl ?_
  refine ev_callV kX11_119 co0 (qX11_needRiver_y hS0 hr) dX11_riverOf_2 rfl (by decide) (by decide) rfl ?_
  refine ev_aload_n dX11_riverOf_5 rfl ?_
  refine ev_getR fX11_10 dX11_riverOf_6 (by decide) sh0 rfl ?_
  refine ev_iload_n dX11_riverOf_9 rfl ?_
  refine ev_callV kX11_158 co1 (qX1_stepsOf hS0 hr) dX11_riverOf_10 rfl (by decide) (by decide) rfl ?_
  refine ev_ist3 dX11_riverOf_13 (by decide) rfl ?_
  refine ev_iload_n dX11_riverOf_14 rfl ?_
  refine ev_tableOut (tgt := 102) dX11_riverOf_15 (by
        rcases hy with q | q
        · left
          rw [Int32.lt_iff_toInt_lt] at q
          exact q
        · right
          rw [Int32.le_iff_toInt_le] at q
          have e : (nI 6).toInt = 6 := by decide
          omega) (by decide) ?_
  exact ev_throw tX11_82_174_86 dX11_riverOf_102 dX11_riverOf_105 dX11_riverOf_106 dX11_riverOf_108 dX11_riverOf_111 (by decide) rfl rfl
set_option maxRecDepth 4000 in
theorem qX11_riverOf_0 {G : GX} {w : WS} {S : ST} (hS : cm_ S w) {r : Nat} (hr : r < nR S) : Big G 5 1 mX11_riverOf [.ref 0, .int (nI r), .int (nI 0)] w (.inl (some (.int (nI (rP S r 0))))) w := by
  refine big_of (by decide +kernel) (Nat.le_of_ble_eq_true rfl) ?_
  have hS0 := hS
  obtain ⟨hO, hC, hR, hRv, hD, hDv, hM0, hM1, hM2, hM3, hM4⟩ := cm_cells hS
  obtain ⟨hch, hk1, hk2, hk3, hk4⟩ := hS
  have h5 := hk2.1
  have h6 := hk3.1
  show Ev G 5 1 mX11_riverOf 0 [some (.ref 0), some (.int (nI r)), some (.int (nI 0)), none] [] w _
  refine ev_aload_n dX11_riverOf_0 rfl ?_
  refine ev_iload_n dX11_riverOf_1 rfl ?_
  refine ev_callV kX11_119 co0 (qX11_needRiver_y hS0 hr) dX11_riverOf_2 rfl (by decide) (by decide) rfl ?_
  refine ev_aload_n dX11_riverOf_5 rfl ?_
  refine ev_getR fX11_10 dX11_riverOf_6 (by decide) sh0 rfl ?_
  refine ev_iload_n dX11_riverOf_9 rfl ?_
  refine ev_callV kX11_158 co1 (qX1_stepsOf hS0 hr) dX11_riverOf_10 rfl (by decide) (by decide) rfl ?_
  refine ev_ist3 dX11_riverOf_13 (by decide) rfl ?_
  refine ev_iload_n dX11_riverOf_14 rfl ?_
  refine ev_tableIn (tgt := 52) (off := 37) dX11_riverOf_15 (by decide) (by decide) (by decide +kernel) (by decide) ?_
  refine ev_aload_n dX11_riverOf_52 rfl ?_
  refine ev_getR fX11_10 dX11_riverOf_53 (by decide) sh0 rfl ?_
  refine ev_iload_n dX11_riverOf_56 rfl ?_
  refine ev_iconst dX11_riverOf_57 ic0 ?_
  refine ev_callV kX11_161 co1 (qX1_placeOf hS0 hr (Nat.zero_le _)) dX11_riverOf_58 rfl (by decide) (by decide) rfl ?_
  exact ev_iret dX11_riverOf_61 rfl rfl rfl rfl
set_option maxRecDepth 4000 in
theorem qX11_riverOf_1 {G : GX} {w : WS} {S : ST} (hS : cm_ S w) {r : Nat} (hr : r < nR S) : Big G 5 1 mX11_riverOf [.ref 0, .int (nI r), .int (nI 1)] w (.inl (some (.int (nI (rN S r))))) w := by
  refine big_of (by decide +kernel) (Nat.le_of_ble_eq_true rfl) ?_
  have hS0 := hS
  obtain ⟨hO, hC, hR, hRv, hD, hDv, hM0, hM1, hM2, hM3, hM4⟩ := cm_cells hS
  obtain ⟨hch, hk1, hk2, hk3, hk4⟩ := hS
  have h5 := hk2.1
  have h6 := hk3.1
  show Ev G 5 1 mX11_riverOf 0 [some (.ref 0), some (.int (nI r)), some (.int (nI 1)), none] [] w _
  refine ev_aload_n dX11_riverOf_0 rfl ?_
  refine ev_iload_n dX11_riverOf_1 rfl ?_
  refine ev_callV kX11_119 co0 (qX11_needRiver_y hS0 hr) dX11_riverOf_2 rfl (by decide) (by decide) rfl ?_
  refine ev_aload_n dX11_riverOf_5 rfl ?_
  refine ev_getR fX11_10 dX11_riverOf_6 (by decide) sh0 rfl ?_
  refine ev_iload_n dX11_riverOf_9 rfl ?_
  refine ev_callV kX11_158 co1 (qX1_stepsOf hS0 hr) dX11_riverOf_10 rfl (by decide) (by decide) rfl ?_
  refine ev_ist3 dX11_riverOf_13 (by decide) rfl ?_
  refine ev_iload_n dX11_riverOf_14 rfl ?_
  refine ev_tableIn (tgt := 62) (off := 47) dX11_riverOf_15 (by decide) (by decide) (by decide +kernel) (by decide) ?_
  refine ev_iload_n dX11_riverOf_62 rfl ?_
  exact ev_iret dX11_riverOf_63 rfl rfl rfl rfl
set_option maxRecDepth 4000 in
theorem qX11_riverOf_2 {G : GX} {w : WS} {S : ST} (hS : cm_ S w) {r : Nat} (hr : r < nR S) : Big G 5 1 mX11_riverOf [.ref 0, .int (nI r), .int (nI 2)] w (.inl (some (.int (nI (rP S r (rN S r)))))) w := by
  refine big_of (by decide +kernel) (Nat.le_of_ble_eq_true rfl) ?_
  have hS0 := hS
  obtain ⟨hO, hC, hR, hRv, hD, hDv, hM0, hM1, hM2, hM3, hM4⟩ := cm_cells hS
  obtain ⟨hch, hk1, hk2, hk3, hk4⟩ := hS
  have h5 := hk2.1
  have h6 := hk3.1
  show Ev G 5 1 mX11_riverOf 0 [some (.ref 0), some (.int (nI r)), some (.int (nI 2)), none] [] w _
  refine ev_aload_n dX11_riverOf_0 rfl ?_
  refine ev_iload_n dX11_riverOf_1 rfl ?_
  refine ev_callV kX11_119 co0 (qX11_needRiver_y hS0 hr) dX11_riverOf_2 rfl (by decide) (by decide) rfl ?_
  refine ev_aload_n dX11_riverOf_5 rfl ?_
  refine ev_getR fX11_10 dX11_riverOf_6 (by decide) sh0 rfl ?_
  refine ev_iload_n dX11_riverOf_9 rfl ?_
  refine ev_callV kX11_158 co1 (qX1_stepsOf hS0 hr) dX11_riverOf_10 rfl (by decide) (by decide) rfl ?_
  refine ev_ist3 dX11_riverOf_13 (by decide) rfl ?_
  refine ev_iload_n dX11_riverOf_14 rfl ?_
  refine ev_tableIn (tgt := 64) (off := 49) dX11_riverOf_15 (by decide) (by decide) (by decide +kernel) (by decide) ?_
  refine ev_aload_n dX11_riverOf_64 rfl ?_
  refine ev_getR fX11_10 dX11_riverOf_65 (by decide) sh0 rfl ?_
  refine ev_iload_n dX11_riverOf_68 rfl ?_
  refine ev_iload_n dX11_riverOf_69 rfl ?_
  refine ev_callV kX11_161 co1 (qX1_placeOf hS0 hr (Nat.le_refl _)) dX11_riverOf_70 rfl (by decide) (by decide) rfl ?_
  exact ev_iret dX11_riverOf_73 rfl rfl rfl rfl
set_option maxRecDepth 4000 in
theorem qX11_riverOf_3 {G : GX} {w : WS} {S : ST} (hS : cm_ S w) {r : Nat} (hr : r < nR S) : Big G 5 1 mX11_riverOf [.ref 0, .int (nI r), .int (nI 3)] w (.inl (some (.int (nI (rT S r))))) w := by
  refine big_of (by decide +kernel) (Nat.le_of_ble_eq_true rfl) ?_
  have hS0 := hS
  obtain ⟨hO, hC, hR, hRv, hD, hDv, hM0, hM1, hM2, hM3, hM4⟩ := cm_cells hS
  obtain ⟨hch, hk1, hk2, hk3, hk4⟩ := hS
  have h5 := hk2.1
  have h6 := hk3.1
  show Ev G 5 1 mX11_riverOf 0 [some (.ref 0), some (.int (nI r)), some (.int (nI 3)), none] [] w _
  refine ev_aload_n dX11_riverOf_0 rfl ?_
  refine ev_iload_n dX11_riverOf_1 rfl ?_
  refine ev_callV kX11_119 co0 (qX11_needRiver_y hS0 hr) dX11_riverOf_2 rfl (by decide) (by decide) rfl ?_
  refine ev_aload_n dX11_riverOf_5 rfl ?_
  refine ev_getR fX11_10 dX11_riverOf_6 (by decide) sh0 rfl ?_
  refine ev_iload_n dX11_riverOf_9 rfl ?_
  refine ev_callV kX11_158 co1 (qX1_stepsOf hS0 hr) dX11_riverOf_10 rfl (by decide) (by decide) rfl ?_
  refine ev_ist3 dX11_riverOf_13 (by decide) rfl ?_
  refine ev_iload_n dX11_riverOf_14 rfl ?_
  refine ev_tableIn (tgt := 74) (off := 59) dX11_riverOf_15 (by decide) (by decide) (by decide +kernel) (by decide) ?_
  refine ev_aload_n dX11_riverOf_74 rfl ?_
  refine ev_getR fX11_10 dX11_riverOf_75 (by decide) sh0 rfl ?_
  refine ev_iload_n dX11_riverOf_78 rfl ?_
  refine ev_callV kX11_165 co1 (qX1_toldOf hS0 hr) dX11_riverOf_79 rfl (by decide) (by decide) rfl ?_
  exact ev_iret dX11_riverOf_82 rfl rfl rfl rfl
set_option maxRecDepth 4000 in
theorem qX11_riverOf_4 {G : GX} {w : WS} {S : ST} (hS : cm_ S w) {r : Nat} (hr : r < nR S) : Big G 5 1 mX11_riverOf [.ref 0, .int (nI r), .int (nI 4)] w (.inl (some (.int (nI (rN S r) * sM S 0)))) w := by
  refine big_of (by decide +kernel) (Nat.le_of_ble_eq_true rfl) ?_
  have hS0 := hS
  obtain ⟨hO, hC, hR, hRv, hD, hDv, hM0, hM1, hM2, hM3, hM4⟩ := cm_cells hS
  obtain ⟨hch, hk1, hk2, hk3, hk4⟩ := hS
  have h5 := hk2.1
  have h6 := hk3.1
  show Ev G 5 1 mX11_riverOf 0 [some (.ref 0), some (.int (nI r)), some (.int (nI 4)), none] [] w _
  refine ev_aload_n dX11_riverOf_0 rfl ?_
  refine ev_iload_n dX11_riverOf_1 rfl ?_
  refine ev_callV kX11_119 co0 (qX11_needRiver_y hS0 hr) dX11_riverOf_2 rfl (by decide) (by decide) rfl ?_
  refine ev_aload_n dX11_riverOf_5 rfl ?_
  refine ev_getR fX11_10 dX11_riverOf_6 (by decide) sh0 rfl ?_
  refine ev_iload_n dX11_riverOf_9 rfl ?_
  refine ev_callV kX11_158 co1 (qX1_stepsOf hS0 hr) dX11_riverOf_10 rfl (by decide) (by decide) rfl ?_
  refine ev_ist3 dX11_riverOf_13 (by decide) rfl ?_
  refine ev_iload_n dX11_riverOf_14 rfl ?_
  refine ev_tableIn (tgt := 83) (off := 68) dX11_riverOf_15 (by decide) (by decide) (by decide +kernel) (by decide) ?_
  refine ev_iload_n dX11_riverOf_83 rfl ?_
  refine ev_aload_n dX11_riverOf_84 rfl ?_
  refine ev_getR fX11_10 dX11_riverOf_85 (by decide) sh0 rfl ?_
  refine ev_getI fX11_168 dX11_riverOf_88 (by decide) sh1 rfl ?_
  refine ev_top hM0 ?_
  refine ev_imul dX11_riverOf_91 ?_
  exact ev_iret dX11_riverOf_92 rfl rfl rfl rfl
set_option maxRecDepth 4000 in
theorem qX11_riverOf_5 {G : GX} {w : WS} {S : ST} (hS : cm_ S w) {r : Nat} (hr : r < nR S) : Big G 5 1 mX11_riverOf [.ref 0, .int (nI r), .int (nI 5)] w (.inl (some (.int (nI (ct (xs S r) (rN S r)))))) w := by
  refine big_of (by decide +kernel) (Nat.le_of_ble_eq_true rfl) ?_
  have hS0 := hS
  obtain ⟨hO, hC, hR, hRv, hD, hDv, hM0, hM1, hM2, hM3, hM4⟩ := cm_cells hS
  obtain ⟨hch, hk1, hk2, hk3, hk4⟩ := hS
  have h5 := hk2.1
  have h6 := hk3.1
  show Ev G 5 1 mX11_riverOf 0 [some (.ref 0), some (.int (nI r)), some (.int (nI 5)), none] [] w _
  refine ev_aload_n dX11_riverOf_0 rfl ?_
  refine ev_iload_n dX11_riverOf_1 rfl ?_
  refine ev_callV kX11_119 co0 (qX11_needRiver_y hS0 hr) dX11_riverOf_2 rfl (by decide) (by decide) rfl ?_
  refine ev_aload_n dX11_riverOf_5 rfl ?_
  refine ev_getR fX11_10 dX11_riverOf_6 (by decide) sh0 rfl ?_
  refine ev_iload_n dX11_riverOf_9 rfl ?_
  refine ev_callV kX11_158 co1 (qX1_stepsOf hS0 hr) dX11_riverOf_10 rfl (by decide) (by decide) rfl ?_
  refine ev_ist3 dX11_riverOf_13 (by decide) rfl ?_
  refine ev_iload_n dX11_riverOf_14 rfl ?_
  refine ev_tableIn (tgt := 93) (off := 78) dX11_riverOf_15 (by decide) (by decide) (by decide +kernel) (by decide) ?_
  refine ev_aload_n dX11_riverOf_93 rfl ?_
  refine ev_getR fX11_10 dX11_riverOf_94 (by decide) sh0 rfl ?_
  refine ev_iload_n dX11_riverOf_97 rfl ?_
  refine ev_callS kX11_171 (qX10_crossings hS0 hr) dX11_riverOf_98 rfl (by decide) (by decide) rfl ?_
  exact ev_iret dX11_riverOf_101 rfl rfl rfl rfl
theorem qX11_riverOf {G : GX} {w : WS} {S : ST} (hS : cm_ S w) (x y : Int32) : Big G 5 1 mX11_riverOf [.ref 0, .int x, .int y] w (cOut ["java/lang/IndexOutOfBoundsException", "java/lang/IllegalArgumentException"] (qRv S x y)) w := by
  unfold qRv
  rcases ixN_or (nR S) (by have := hS.2.2.1.1; omega) x with ⟨h1, e1⟩ | ⟨r, h1, rfl, e1⟩
  · rw [e1]; exact qX11_riverOf_n hS h1 y
  · rw [e1]
    dsimp only
    rcases ixN_or 6 (by decide) y with ⟨h2, e2⟩ | ⟨k, h2, rfl, e2⟩
    · rw [e2]; exact qX11_riverOf_m hS h1 h2
    · rw [e2]
      obtain rfl | rfl | rfl | rfl | rfl | rfl : k = 0 ∨ k = 1 ∨ k = 2 ∨ k = 3 ∨ k = 4 ∨ k = 5 := by omega
      · exact qX11_riverOf_0 hS h1
      · exact qX11_riverOf_1 hS h1
      · exact qX11_riverOf_2 hS h1
      · exact qX11_riverOf_3 hS h1
      · exact qX11_riverOf_4 hS h1
      · exact qX11_riverOf_5 hS h1
set_option maxRecDepth 4000 in
theorem qX11_riverAt_n {G : GX} {w : WS} {S : ST} (hS : cm_ S w) {x : Int32} (hx : out_ (nR S) x) (y : Int32) : Big G 5 1 mX11_riverAt [.ref 0, .int x, .int y] w (.inr "java/lang/IndexOutOfBoundsException") w := by
  refine big_of (by decide +kernel) (Nat.le_of_ble_eq_true rfl) ?_
  have hS0 := hS
  obtain ⟨hO, hC, hR, hRv, hD, hDv, hM0, hM1, hM2, hM3, hM4⟩ := cm_cells hS
  obtain ⟨hch, hk1, hk2, hk3, hk4⟩ := hS
  have h5 := hk2.1
  have h6 := hk3.1
  show Ev G 5 1 mX11_riverAt 0 [some (.ref 0), some (.int x), some (.int y)] [] w _
  refine ev_aload_n dX11_riverAt_0 rfl ?_
  refine ev_iload_n dX11_riverAt_1 rfl ?_
  exact ev_callVx kX11_119 co0 (qX11_needRiver_n hS0 hx) dX11_riverAt_2 rfl (by decide) (by decide) rfl rfl
set_option maxRecDepth 4000 in
theorem qX11_riverAt_m {G : GX} {w : WS} {S : ST} (hS : cm_ S w) {r : Nat} (hr : r < nR S) {y : Int32} (hy : out_ (rN S r + 1) y) : Big G 5 1 mX11_riverAt [.ref 0, .int (nI r), .int y] w (.inr "java/util/NoSuchElementException") w := by
  refine big_of (by decide +kernel) (Nat.le_of_ble_eq_true rfl) ?_
  have hS0 := hS
  obtain ⟨hO, hC, hR, hRv, hD, hDv, hM0, hM1, hM2, hM3, hM4⟩ := cm_cells hS
  obtain ⟨hch, hk1, hk2, hk3, hk4⟩ := hS
  have h5 := hk2.1
  have h6 := hk3.1
  show Ev G 5 1 mX11_riverAt 0 [some (.ref 0), some (.int (nI r)), some (.int y)] [] w _
  refine ev_aload_n dX11_riverAt_0 rfl ?_
  refine ev_iload_n dX11_riverAt_1 rfl ?_
  refine ev_callV kX11_119 co0 (qX11_needRiver_y hS0 hr) dX11_riverAt_2 rfl (by decide) (by decide) rfl ?_
  refine ev_iload_n dX11_riverAt_5 rfl ?_
  refine ev_if_lt (tgt := 21) dX11_riverAt_6 (by decide) (fun hc6 => ?_) (fun hc6 => ?_)
  · exact ev_throwN tX11_176_178_180 dX11_riverAt_21 dX11_riverAt_24 dX11_riverAt_25 dX11_riverAt_27 dX11_riverAt_30 (by decide) rfl rfl
  · refine ev_iload_n dX11_riverAt_9 rfl ?_
    refine ev_aload_n dX11_riverAt_10 rfl ?_
    refine ev_getR fX11_10 dX11_riverAt_11 (by decide) sh0 rfl ?_
    refine ev_iload_n dX11_riverAt_14 rfl ?_
    refine ev_callV kX11_158 co1 (qX1_stepsOf hS0 hr) dX11_riverAt_15 rfl (by decide) (by decide) rfl ?_
    refine ev_icmp_le_f (tgt := 31) dX11_riverAt_18 (by decide) (fun q => nI_ge (Nat.lt_succ_self _) (by have := (hk2.2 r hr).2.2.1; omega) (Int32.le_trans (hy.resolve_left hc6) q)) ?_
    exact ev_throwN tX11_176_178_180 dX11_riverAt_21 dX11_riverAt_24 dX11_riverAt_25 dX11_riverAt_27 dX11_riverAt_30 (by decide) rfl rfl
set_option maxRecDepth 4000 in
theorem qX11_riverAt_y {G : GX} {w : WS} {S : ST} (hS : cm_ S w) {r k : Nat} (hr : r < nR S) (hk : k < rN S r + 1) : Big G 5 1 mX11_riverAt [.ref 0, .int (nI r), .int (nI k)] w (.inl (some (.int (nI (rP S r k))))) w := by
  refine big_of (by decide +kernel) (Nat.le_of_ble_eq_true rfl) ?_
  have hS0 := hS
  obtain ⟨hO, hC, hR, hRv, hD, hDv, hM0, hM1, hM2, hM3, hM4⟩ := cm_cells hS
  obtain ⟨hch, hk1, hk2, hk3, hk4⟩ := hS
  have h5 := hk2.1
  have h6 := hk3.1
  have h12 := (hk2.2 r hr).2.2.1
  show Ev G 5 1 mX11_riverAt 0 [some (.ref 0), some (.int (nI r)), some (.int (nI k))] [] w _
  refine ev_aload_n dX11_riverAt_0 rfl ?_
  refine ev_iload_n dX11_riverAt_1 rfl ?_
  refine ev_callV kX11_119 co0 (qX11_needRiver_y hS0 hr) dX11_riverAt_2 rfl (by decide) (by decide) rfl ?_
  refine ev_iload_n dX11_riverAt_5 rfl ?_
  refine ev_if_lt_f (tgt := 21) dX11_riverAt_6 (by decide) (nI_pos (by omega)) ?_
  refine ev_iload_n dX11_riverAt_9 rfl ?_
  refine ev_aload_n dX11_riverAt_10 rfl ?_
  refine ev_getR fX11_10 dX11_riverAt_11 (by decide) sh0 rfl ?_
  refine ev_iload_n dX11_riverAt_14 rfl ?_
  refine ev_callV kX11_158 co1 (qX1_stepsOf hS0 hr) dX11_riverAt_15 rfl (by decide) (by decide) rfl ?_
  refine ev_icmp_le_t (tgt := 31) dX11_riverAt_18 (by decide) (nI_le (by omega) (by omega)) ?_
  refine ev_aload_n dX11_riverAt_31 rfl ?_
  refine ev_getR fX11_10 dX11_riverAt_32 (by decide) sh0 rfl ?_
  refine ev_iload_n dX11_riverAt_35 rfl ?_
  refine ev_iload_n dX11_riverAt_36 rfl ?_
  refine ev_callV kX11_161 co1 (qX1_placeOf hS0 hr (by omega)) dX11_riverAt_37 rfl (by decide) (by decide) rfl ?_
  exact ev_iret dX11_riverAt_40 rfl rfl rfl rfl
theorem qX11_riverAt {G : GX} {w : WS} {S : ST} (hS : cm_ S w) (x y : Int32) : Big G 5 1 mX11_riverAt [.ref 0, .int x, .int y] w (cOut ["java/lang/IndexOutOfBoundsException", "java/util/NoSuchElementException"] (qRa S x y)) w := by
  unfold qRa
  rcases ixN_or (nR S) (by have := hS.2.2.1.1; omega) x with ⟨h1, e1⟩ | ⟨r, h1, rfl, e1⟩
  · rw [e1]; exact qX11_riverAt_n hS h1 y
  · rw [e1]
    dsimp only
    rcases ixN_or (rN S r + 1) (by have := (hS.2.2.1.2 r h1).2.2.1; omega) y with ⟨h2, e2⟩ | ⟨k, h2, rfl, e2⟩
    · rw [e2]; exact qX11_riverAt_m hS h1 h2
    · rw [e2]; exact qX11_riverAt_y hS h1 h2
set_option maxRecDepth 4000 in
theorem qX11_dragonOf_n {G : GX} {w : WS} {S : ST} (hS : cm_ S w) {x : Int32} (hx : out_ (nD S) x) (y : Int32) : Big G 5 1 mX11_dragonOf [.ref 0, .int x, .int y] w (.inr "java/lang/IndexOutOfBoundsException") w := by
  refine big_of (by decide +kernel) (Nat.le_of_ble_eq_true rfl) ?_
  have hS0 := hS
  obtain ⟨hO, hC, hR, hRv, hD, hDv, hM0, hM1, hM2, hM3, hM4⟩ := cm_cells hS
  obtain ⟨hch, hk1, hk2, hk3, hk4⟩ := hS
  have h5 := hk2.1
  have h6 := hk3.1
  show Ev G 5 1 mX11_dragonOf 0 [some (.ref 0), some (.int x), some (.int y)] [] w _
  refine ev_aload_n dX11_dragonOf_0 rfl ?_
  refine ev_iload_n dX11_dragonOf_1 rfl ?_
  exact ev_callVx kX11_127 co0 (qX11_needDragon_n hS0 hx) dX11_dragonOf_2 rfl (by decide) (by decide) rfl rfl
set_option maxRecDepth 4000 in
theorem qX11_dragonOf_m {G : GX} {w : WS} {S : ST} (hS : cm_ S w) {r : Nat} (hr : r < nD S) {y : Int32} (hy : out_ 3 y) : Big G 5 1 mX11_dragonOf [.ref 0, .int (nI r), .int y] w (.inr "java/lang/IllegalArgumentException") w := by
  refine big_of (by decide +kernel) (Nat.le_of_ble_eq_true rfl) ?_
  have hS0 := hS
  obtain ⟨hO, hC, hR, hRv, hD, hDv, hM0, hM1, hM2, hM3, hM4⟩ := cm_cells hS
  obtain ⟨hch, hk1, hk2, hk3, hk4⟩ := hS
  have h5 := hk2.1
  have h6 := hk3.1
  show Ev G 5 1 mX11_dragonOf 0 [some (.ref 0), some (.int (nI r)), some (.int y)] [] w _
  refine ev_aload_n dX11_dragonOf_0 rfl ?_
  refine ev_iload_n dX11_dragonOf_1 rfl ?_
  refine ev_callV kX11_127 co0 (qX11_needDragon_y hS0 hr) dX11_dragonOf_2 rfl (by decide) (by decide) rfl ?_
  refine ev_iload_n dX11_dragonOf_5 rfl ?_
  refine ev_tableOut (tgt := 62) dX11_dragonOf_6 (by
        rcases hy with q | q
        · left
          rw [Int32.lt_iff_toInt_lt] at q
          exact q
        · right
          rw [Int32.le_iff_toInt_le] at q
          have e : (nI 3).toInt = 3 := by decide
          omega) (by decide) ?_
  exact ev_throw tX11_82_190_86 dX11_dragonOf_62 dX11_dragonOf_65 dX11_dragonOf_66 dX11_dragonOf_68 dX11_dragonOf_71 (by decide) rfl rfl
set_option maxRecDepth 4000 in
theorem qX11_dragonOf_0 {G : GX} {w : WS} {S : ST} (hS : cm_ S w) {r : Nat} (hr : r < nD S) : Big G 5 1 mX11_dragonOf [.ref 0, .int (nI r), .int (nI 0)] w (.inl (some (.int (nI (dC S r))))) w := by
  refine big_of (by decide +kernel) (Nat.le_of_ble_eq_true rfl) ?_
  have hS0 := hS
  obtain ⟨hO, hC, hR, hRv, hD, hDv, hM0, hM1, hM2, hM3, hM4⟩ := cm_cells hS
  obtain ⟨hch, hk1, hk2, hk3, hk4⟩ := hS
  have h5 := hk2.1
  have h6 := hk3.1
  show Ev G 5 1 mX11_dragonOf 0 [some (.ref 0), some (.int (nI r)), some (.int (nI 0))] [] w _
  refine ev_aload_n dX11_dragonOf_0 rfl ?_
  refine ev_iload_n dX11_dragonOf_1 rfl ?_
  refine ev_callV kX11_127 co0 (qX11_needDragon_y hS0 hr) dX11_dragonOf_2 rfl (by decide) (by decide) rfl ?_
  refine ev_iload_n dX11_dragonOf_5 rfl ?_
  refine ev_tableIn (tgt := 32) (off := 26) dX11_dragonOf_6 (by decide) (by decide) (by decide +kernel) (by decide) ?_
  refine ev_aload_n dX11_dragonOf_32 rfl ?_
  refine ev_getR fX11_10 dX11_dragonOf_33 (by decide) sh0 rfl ?_
  refine ev_getR fX11_181 dX11_dragonOf_36 (by decide) sh1 rfl ?_
  refine ev_iload_n dX11_dragonOf_39 rfl ?_
  refine ev_iaload dX11_dragonOf_40 rfl (by omega) (by decide) sh9 ?_
  refine ev_top (hDv r hr).1 ?_
  exact ev_iret dX11_dragonOf_41 rfl rfl rfl rfl
set_option maxRecDepth 4000 in
theorem qX11_dragonOf_1 {G : GX} {w : WS} {S : ST} (hS : cm_ S w) {r : Nat} (hr : r < nD S) : Big G 5 1 mX11_dragonOf [.ref 0, .int (nI r), .int (nI 1)] w (.inl (some (.int (nI (dP S r))))) w := by
  refine big_of (by decide +kernel) (Nat.le_of_ble_eq_true rfl) ?_
  have hS0 := hS
  obtain ⟨hO, hC, hR, hRv, hD, hDv, hM0, hM1, hM2, hM3, hM4⟩ := cm_cells hS
  obtain ⟨hch, hk1, hk2, hk3, hk4⟩ := hS
  have h5 := hk2.1
  have h6 := hk3.1
  show Ev G 5 1 mX11_dragonOf 0 [some (.ref 0), some (.int (nI r)), some (.int (nI 1))] [] w _
  refine ev_aload_n dX11_dragonOf_0 rfl ?_
  refine ev_iload_n dX11_dragonOf_1 rfl ?_
  refine ev_callV kX11_127 co0 (qX11_needDragon_y hS0 hr) dX11_dragonOf_2 rfl (by decide) (by decide) rfl ?_
  refine ev_iload_n dX11_dragonOf_5 rfl ?_
  refine ev_tableIn (tgt := 42) (off := 36) dX11_dragonOf_6 (by decide) (by decide) (by decide +kernel) (by decide) ?_
  refine ev_aload_n dX11_dragonOf_42 rfl ?_
  refine ev_getR fX11_10 dX11_dragonOf_43 (by decide) sh0 rfl ?_
  refine ev_getR fX11_184 dX11_dragonOf_46 (by decide) sh1 rfl ?_
  refine ev_iload_n dX11_dragonOf_49 rfl ?_
  refine ev_iaload dX11_dragonOf_50 rfl (by omega) (by decide) sh10 ?_
  refine ev_top (hDv r hr).2.1 ?_
  exact ev_iret dX11_dragonOf_51 rfl rfl rfl rfl
set_option maxRecDepth 4000 in
theorem qX11_dragonOf_2 {G : GX} {w : WS} {S : ST} (hS : cm_ S w) {r : Nat} (hr : r < nD S) : Big G 5 1 mX11_dragonOf [.ref 0, .int (nI r), .int (nI 2)] w (.inl (some (.int (nI (dQ S r))))) w := by
  refine big_of (by decide +kernel) (Nat.le_of_ble_eq_true rfl) ?_
  have hS0 := hS
  obtain ⟨hO, hC, hR, hRv, hD, hDv, hM0, hM1, hM2, hM3, hM4⟩ := cm_cells hS
  obtain ⟨hch, hk1, hk2, hk3, hk4⟩ := hS
  have h5 := hk2.1
  have h6 := hk3.1
  show Ev G 5 1 mX11_dragonOf 0 [some (.ref 0), some (.int (nI r)), some (.int (nI 2))] [] w _
  refine ev_aload_n dX11_dragonOf_0 rfl ?_
  refine ev_iload_n dX11_dragonOf_1 rfl ?_
  refine ev_callV kX11_127 co0 (qX11_needDragon_y hS0 hr) dX11_dragonOf_2 rfl (by decide) (by decide) rfl ?_
  refine ev_iload_n dX11_dragonOf_5 rfl ?_
  refine ev_tableIn (tgt := 52) (off := 46) dX11_dragonOf_6 (by decide) (by decide) (by decide +kernel) (by decide) ?_
  refine ev_aload_n dX11_dragonOf_52 rfl ?_
  refine ev_getR fX11_10 dX11_dragonOf_53 (by decide) sh0 rfl ?_
  refine ev_getR fX11_187 dX11_dragonOf_56 (by decide) sh1 rfl ?_
  refine ev_iload_n dX11_dragonOf_59 rfl ?_
  refine ev_iaload dX11_dragonOf_60 rfl (by omega) (by decide) sh11 ?_
  refine ev_top (hDv r hr).2.2 ?_
  exact ev_iret dX11_dragonOf_61 rfl rfl rfl rfl
theorem qX11_dragonOf {G : GX} {w : WS} {S : ST} (hS : cm_ S w) (x y : Int32) : Big G 5 1 mX11_dragonOf [.ref 0, .int x, .int y] w (cOut ["java/lang/IndexOutOfBoundsException", "java/lang/IllegalArgumentException"] (qDr S x y)) w := by
  unfold qDr
  rcases ixN_or (nD S) (by have := hS.2.2.2.1.1; omega) x with ⟨h1, e1⟩ | ⟨r, h1, rfl, e1⟩
  · rw [e1]; exact qX11_dragonOf_n hS h1 y
  · rw [e1]
    dsimp only
    rcases ixN_or 3 (by decide) y with ⟨h2, e2⟩ | ⟨k, h2, rfl, e2⟩
    · rw [e2]; exact qX11_dragonOf_m hS h1 h2
    · rw [e2]
      obtain rfl | rfl | rfl : k = 0 ∨ k = 1 ∨ k = 2 := by omega
      · exact qX11_dragonOf_0 hS h1
      · exact qX11_dragonOf_1 hS h1
      · exact qX11_dragonOf_2 hS h1
set_option maxRecDepth 4000 in
theorem qX11_weight_n {G : GX} {w : WS} {S : ST} (hS : cm_ S w) {x : Int32} (hx : out_ (nR S) x) : Big G 5 1 mX11_weight [.ref 0, .int x] w (.inr "java/lang/IndexOutOfBoundsException") w := by
  refine big_of (by decide +kernel) (Nat.le_of_ble_eq_true rfl) ?_
  have hS0 := hS
  obtain ⟨hO, hC, hR, hRv, hD, hDv, hM0, hM1, hM2, hM3, hM4⟩ := cm_cells hS
  obtain ⟨hch, hk1, hk2, hk3, hk4⟩ := hS
  have h5 := hk2.1
  have h6 := hk3.1
  show Ev G 5 1 mX11_weight 0 [some (.ref 0), some (.int x)] [] w _
  refine ev_aload_n dX11_weight_0 rfl ?_
  refine ev_iload_n dX11_weight_1 rfl ?_
  exact ev_callVx kX11_119 co0 (qX11_needRiver_n hS0 hx) dX11_weight_2 rfl (by decide) (by decide) rfl rfl
set_option maxRecDepth 4000 in
theorem qX11_weight_y {G : GX} {w : WS} {S : ST} (hS : cm_ S w) {r : Nat} (hr : r < nR S) : Big G 5 1 mX11_weight [.ref 0, .int (nI r)] w (.inl (some (.int (nI (wgt S r))))) w := by
  refine big_of (by decide +kernel) (Nat.le_of_ble_eq_true rfl) ?_
  have hS0 := hS
  obtain ⟨hO, hC, hR, hRv, hD, hDv, hM0, hM1, hM2, hM3, hM4⟩ := cm_cells hS
  obtain ⟨hch, hk1, hk2, hk3, hk4⟩ := hS
  have h5 := hk2.1
  have h6 := hk3.1
  show Ev G 5 1 mX11_weight 0 [some (.ref 0), some (.int (nI r))] [] w _
  refine ev_aload_n dX11_weight_0 rfl ?_
  refine ev_iload_n dX11_weight_1 rfl ?_
  refine ev_callV kX11_119 co0 (qX11_needRiver_y hS0 hr) dX11_weight_2 rfl (by decide) (by decide) rfl ?_
  refine ev_aload_n dX11_weight_5 rfl ?_
  refine ev_getR fX11_10 dX11_weight_6 (by decide) sh0 rfl ?_
  refine ev_iload_n dX11_weight_9 rfl ?_
  refine ev_callS kX11_192 (qX10_weightByCells hS0 hr) dX11_weight_10 rfl (by decide) (by decide) rfl ?_
  exact ev_iret dX11_weight_13 rfl rfl rfl rfl
theorem qX11_weight {G : GX} {w : WS} {S : ST} (hS : cm_ S w) (x : Int32) : Big G 5 1 mX11_weight [.ref 0, .int x] w (cOut ["java/lang/IndexOutOfBoundsException"] (qWe S x)) w := by
  unfold qWe
  rcases ixN_or (nR S) (by have := hS.2.2.1.1; omega) x with ⟨h1, e1⟩ | ⟨r, h1, rfl, e1⟩
  · rw [e1]; exact qX11_weight_n hS h1
  · rw [e1]; exact qX11_weight_y hS h1
set_option maxRecDepth 4000 in
theorem qX11_weightAgain_n {G : GX} {w : WS} {S : ST} (hS : cm_ S w) {x : Int32} (hx : out_ (nR S) x) : Big G 5 1 mX11_weightAgain [.ref 0, .int x] w (.inr "java/lang/IndexOutOfBoundsException") w := by
  refine big_of (by decide +kernel) (Nat.le_of_ble_eq_true rfl) ?_
  have hS0 := hS
  obtain ⟨hO, hC, hR, hRv, hD, hDv, hM0, hM1, hM2, hM3, hM4⟩ := cm_cells hS
  obtain ⟨hch, hk1, hk2, hk3, hk4⟩ := hS
  have h5 := hk2.1
  have h6 := hk3.1
  show Ev G 5 1 mX11_weightAgain 0 [some (.ref 0), some (.int x)] [] w _
  refine ev_aload_n dX11_weightAgain_0 rfl ?_
  refine ev_iload_n dX11_weightAgain_1 rfl ?_
  exact ev_callVx kX11_119 co0 (qX11_needRiver_n hS0 hx) dX11_weightAgain_2 rfl (by decide) (by decide) rfl rfl
set_option maxRecDepth 4000 in
theorem qX11_weightAgain_y {G : GX} {w : WS} {S : ST} (hS : cm_ S w) {r : Nat} (hr : r < nR S) : Big G 5 1 mX11_weightAgain [.ref 0, .int (nI r)] w (.inl (some (.int (nI (wgt S r))))) w := by
  refine big_of (by decide +kernel) (Nat.le_of_ble_eq_true rfl) ?_
  have hS0 := hS
  obtain ⟨hO, hC, hR, hRv, hD, hDv, hM0, hM1, hM2, hM3, hM4⟩ := cm_cells hS
  obtain ⟨hch, hk1, hk2, hk3, hk4⟩ := hS
  have h5 := hk2.1
  have h6 := hk3.1
  show Ev G 5 1 mX11_weightAgain 0 [some (.ref 0), some (.int (nI r))] [] w _
  refine ev_aload_n dX11_weightAgain_0 rfl ?_
  refine ev_iload_n dX11_weightAgain_1 rfl ?_
  refine ev_callV kX11_119 co0 (qX11_needRiver_y hS0 hr) dX11_weightAgain_2 rfl (by decide) (by decide) rfl ?_
  refine ev_aload_n dX11_weightAgain_5 rfl ?_
  refine ev_getR fX11_10 dX11_weightAgain_6 (by decide) sh0 rfl ?_
  refine ev_iload_n dX11_weightAgain_9 rfl ?_
  refine ev_callS kX11_195 (qX10_weightByRealms hS0 hr) dX11_weightAgain_10 rfl (by decide) (by decide) rfl ?_
  exact ev_iret dX11_weightAgain_13 rfl rfl rfl rfl
theorem qX11_weightAgain {G : GX} {w : WS} {S : ST} (hS : cm_ S w) (x : Int32) : Big G 5 1 mX11_weightAgain [.ref 0, .int x] w (cOut ["java/lang/IndexOutOfBoundsException"] (qWe S x)) w := by
  unfold qWe
  rcases ixN_or (nR S) (by have := hS.2.2.1.1; omega) x with ⟨h1, e1⟩ | ⟨r, h1, rfl, e1⟩
  · rw [e1]; exact qX11_weightAgain_n hS h1
  · rw [e1]; exact qX11_weightAgain_y hS h1
set_option maxRecDepth 4000 in
theorem qX11_border_n {G : GX} {w : WS} {S : ST} (hS : cm_ S w) {x : Int32} (hx : out_ 4 x) (y : Int32) : Big G 5 1 mX11_border [.ref 0, .int x, .int y] w (.inr "java/lang/IndexOutOfBoundsException") w := by
  refine big_of (by decide +kernel) (Nat.le_of_ble_eq_true rfl) ?_
  have hS0 := hS
  obtain ⟨hO, hC, hR, hRv, hD, hDv, hM0, hM1, hM2, hM3, hM4⟩ := cm_cells hS
  obtain ⟨hch, hk1, hk2, hk3, hk4⟩ := hS
  have h5 := hk2.1
  have h6 := hk3.1
  show Ev G 5 1 mX11_border 0 [some (.ref 0), some (.int x), some (.int y)] [] w _
  refine ev_iload_n dX11_border_0 rfl ?_
  exact ev_callSx kX11_97 (qX11_needRealm_n hx) dX11_border_1 rfl (by decide) (by decide) rfl rfl
set_option maxRecDepth 4000 in
theorem qX11_border_m {G : GX} {w : WS} {S : ST} (hS : cm_ S w) {r : Nat} (hr : r < 4) {y : Int32} (hy : out_ 4 y) : Big G 5 1 mX11_border [.ref 0, .int (nI r), .int y] w (.inr "java/lang/IndexOutOfBoundsException") w := by
  refine big_of (by decide +kernel) (Nat.le_of_ble_eq_true rfl) ?_
  have hS0 := hS
  obtain ⟨hO, hC, hR, hRv, hD, hDv, hM0, hM1, hM2, hM3, hM4⟩ := cm_cells hS
  obtain ⟨hch, hk1, hk2, hk3, hk4⟩ := hS
  have h5 := hk2.1
  have h6 := hk3.1
  show Ev G 5 1 mX11_border 0 [some (.ref 0), some (.int (nI r)), some (.int y)] [] w _
  refine ev_iload_n dX11_border_0 rfl ?_
  refine ev_callS kX11_97 (qX11_needRealm_y hr) dX11_border_1 rfl (by decide) (by decide) rfl ?_
  refine ev_iload_n dX11_border_4 rfl ?_
  exact ev_callSx kX11_97 (qX11_needRealm_n hy) dX11_border_5 rfl (by decide) (by decide) rfl rfl
set_option maxRecDepth 4000 in
theorem qX11_border_y {G : GX} {w : WS} {S : ST} (hS : cm_ S w) {r k : Nat} (hr : r < 4) (hk : k < 4) : Big G 5 1 mX11_border [.ref 0, .int (nI r), .int (nI k)] w (.inl (some (.int (nI (if nI r = nI k then 0 else prs S (nI r) (nI k) + prs S (nI k) (nI r)))))) w := by
  refine big_of (by decide +kernel) (Nat.le_of_ble_eq_true rfl) ?_
  have hS0 := hS
  obtain ⟨hO, hC, hR, hRv, hD, hDv, hM0, hM1, hM2, hM3, hM4⟩ := cm_cells hS
  obtain ⟨hch, hk1, hk2, hk3, hk4⟩ := hS
  have h5 := hk2.1
  have h6 := hk3.1
  show Ev G 5 1 mX11_border 0 [some (.ref 0), some (.int (nI r)), some (.int (nI k))] [] w _
  refine ev_iload_n dX11_border_0 rfl ?_
  refine ev_callS kX11_97 (qX11_needRealm_y hr) dX11_border_1 rfl (by decide) (by decide) rfl ?_
  refine ev_iload_n dX11_border_4 rfl ?_
  refine ev_callS kX11_97 (qX11_needRealm_y hk) dX11_border_5 rfl (by decide) (by decide) rfl ?_
  refine ev_aload_n dX11_border_8 rfl ?_
  refine ev_getR fX11_10 dX11_border_9 (by decide) sh0 rfl ?_
  refine ev_iload_n dX11_border_12 rfl ?_
  refine ev_iload_n dX11_border_13 rfl ?_
  refine ev_callS kX11_198 (qX0_between hS0) dX11_border_14 rfl (by decide) (by decide) rfl ?_
  exact ev_iret dX11_border_17 rfl rfl rfl rfl
theorem qX11_border {G : GX} {w : WS} {S : ST} (hS : cm_ S w) (x y : Int32) : Big G 5 1 mX11_border [.ref 0, .int x, .int y] w (cOut ["java/lang/IndexOutOfBoundsException"] (qBo S x y)) w := by
  unfold qBo
  rcases ixN_or 4 (by decide) x with ⟨h1, e1⟩ | ⟨r, h1, rfl, e1⟩
  · rw [e1]; exact qX11_border_n hS h1 y
  · rw [e1]
    dsimp only
    rcases ixN_or 4 (by decide) y with ⟨h2, e2⟩ | ⟨k, h2, rfl, e2⟩
    · rw [e2]; exact qX11_border_m hS h1 h2
    · rw [e2]
      exact qX11_border_y hS h1 h2
set_option maxRecDepth 4000 in
theorem qX11_around_n {G : GX} {w : WS} {S : ST} (hS : cm_ S w) {x : Int32} (hx : out_ 4 x) : Big G 5 1 mX11_around [.ref 0, .int x] w (.inr "java/lang/IndexOutOfBoundsException") w := by
  refine big_of (by decide +kernel) (Nat.le_of_ble_eq_true rfl) ?_
  have hS0 := hS
  obtain ⟨hO, hC, hR, hRv, hD, hDv, hM0, hM1, hM2, hM3, hM4⟩ := cm_cells hS
  obtain ⟨hch, hk1, hk2, hk3, hk4⟩ := hS
  have h5 := hk2.1
  have h6 := hk3.1
  show Ev G 5 1 mX11_around 0 [some (.ref 0), some (.int x)] [] w _
  refine ev_iload_n dX11_around_0 rfl ?_
  exact ev_callSx kX11_97 (qX11_needRealm_n hx) dX11_around_1 rfl (by decide) (by decide) rfl rfl
set_option maxRecDepth 4000 in
theorem qX11_around_y {G : GX} {w : WS} {S : ST} (hS : cm_ S w) {r : Nat} (hr : r < 4) : Big G 5 1 mX11_around [.ref 0, .int (nI r)] w (.inl (some (.int (nI (sbs S (nI r)))))) w := by
  refine big_of (by decide +kernel) (Nat.le_of_ble_eq_true rfl) ?_
  have hS0 := hS
  obtain ⟨hO, hC, hR, hRv, hD, hDv, hM0, hM1, hM2, hM3, hM4⟩ := cm_cells hS
  obtain ⟨hch, hk1, hk2, hk3, hk4⟩ := hS
  have h5 := hk2.1
  have h6 := hk3.1
  show Ev G 5 1 mX11_around 0 [some (.ref 0), some (.int (nI r))] [] w _
  refine ev_iload_n dX11_around_0 rfl ?_
  refine ev_callS kX11_97 (qX11_needRealm_y hr) dX11_around_1 rfl (by decide) (by decide) rfl ?_
  refine ev_aload_n dX11_around_4 rfl ?_
  refine ev_getR fX11_10 dX11_around_5 (by decide) sh0 rfl ?_
  refine ev_iload_n dX11_around_8 rfl ?_
  refine ev_callS kX11_204 (qX0_sideBySide hS0) dX11_around_9 rfl (by decide) (by decide) rfl ?_
  exact ev_iret dX11_around_12 rfl rfl rfl rfl
theorem qX11_around {G : GX} {w : WS} {S : ST} (hS : cm_ S w) (x : Int32) : Big G 5 1 mX11_around [.ref 0, .int x] w (cOut ["java/lang/IndexOutOfBoundsException"] (qAr S x)) w := by
  unfold qAr
  rcases ixN_or 4 (by decide) x with ⟨h1, e1⟩ | ⟨r, h1, rfl, e1⟩
  · rw [e1]; exact qX11_around_n hS h1
  · rw [e1]; exact qX11_around_y hS h1
set_option maxRecDepth 4000 in
theorem qX11_aroundAgain_n {G : GX} {w : WS} {S : ST} (hS : cm_ S w) {x : Int32} (hx : out_ 4 x) : Big G 5 1 mX11_aroundAgain [.ref 0, .int x] w (.inr "java/lang/IndexOutOfBoundsException") w := by
  refine big_of (by decide +kernel) (Nat.le_of_ble_eq_true rfl) ?_
  have hS0 := hS
  obtain ⟨hO, hC, hR, hRv, hD, hDv, hM0, hM1, hM2, hM3, hM4⟩ := cm_cells hS
  obtain ⟨hch, hk1, hk2, hk3, hk4⟩ := hS
  have h5 := hk2.1
  have h6 := hk3.1
  show Ev G 5 1 mX11_aroundAgain 0 [some (.ref 0), some (.int x)] [] w _
  refine ev_iload_n dX11_aroundAgain_0 rfl ?_
  exact ev_callSx kX11_97 (qX11_needRealm_n hx) dX11_aroundAgain_1 rfl (by decide) (by decide) rfl rfl
set_option maxRecDepth 4000 in
theorem qX11_aroundAgain_y {G : GX} {w : WS} {S : ST} (hS : cm_ S w) {r : Nat} (hr : r < 4) : Big G 5 1 mX11_aroundAgain [.ref 0, .int (nI r)] w (.inl (some (.int (nI (sbs S (nI r)))))) w := by
  refine big_of (by decide +kernel) (Nat.le_of_ble_eq_true rfl) ?_
  have hS0 := hS
  obtain ⟨hO, hC, hR, hRv, hD, hDv, hM0, hM1, hM2, hM3, hM4⟩ := cm_cells hS
  obtain ⟨hch, hk1, hk2, hk3, hk4⟩ := hS
  have h5 := hk2.1
  have h6 := hk3.1
  show Ev G 5 1 mX11_aroundAgain 0 [some (.ref 0), some (.int (nI r))] [] w _
  refine ev_iload_n dX11_aroundAgain_0 rfl ?_
  refine ev_callS kX11_97 (qX11_needRealm_y hr) dX11_aroundAgain_1 rfl (by decide) (by decide) rfl ?_
  refine ev_aload_n dX11_aroundAgain_4 rfl ?_
  refine ev_getR fX11_10 dX11_aroundAgain_5 (by decide) sh0 rfl ?_
  refine ev_iload_n dX11_aroundAgain_8 rfl ?_
  refine ev_callS kX11_207 (qX0_lessPairs hS0) dX11_aroundAgain_9 rfl (by decide) (by decide) rfl ?_
  refine ev_top (less_eq (nIm hr)) ?_
  exact ev_iret dX11_aroundAgain_12 rfl rfl rfl rfl
theorem qX11_aroundAgain {G : GX} {w : WS} {S : ST} (hS : cm_ S w) (x : Int32) : Big G 5 1 mX11_aroundAgain [.ref 0, .int x] w (cOut ["java/lang/IndexOutOfBoundsException"] (qAr S x)) w := by
  unfold qAr
  rcases ixN_or 4 (by decide) x with ⟨h1, e1⟩ | ⟨r, h1, rfl, e1⟩
  · rw [e1]; exact qX11_aroundAgain_n hS h1
  · rw [e1]; exact qX11_aroundAgain_y hS h1
def pQ (es : List String) (r : Nat × Int32) (w : WS) : OT → WS → Prop := fun o w2 => o = cOut es r ∧ frG [(113, 114)] w w2
set_option maxRecDepth 4000 in
theorem qX11_parts_n {G : GX} {w : WS} {S : ST} (hS : cm_ S w) {x : Int32} (hx : out_ 4 x) : Big G 6 1 mX11_parts [.ref 0, .int x] w (.inr "java/lang/IndexOutOfBoundsException") w := by
  refine big_of (by decide +kernel) (Nat.le_of_ble_eq_true rfl) ?_
  have hS0 := hS
  obtain ⟨hO, hC, hR, hRv, hD, hDv, hM0, hM1, hM2, hM3, hM4⟩ := cm_cells hS
  obtain ⟨hch, hk1, hk2, hk3, hk4⟩ := hS
  have h5 := hk2.1
  have h6 := hk3.1
  show Ev G 6 1 mX11_parts 0 [some (.ref 0), some (.int x)] [] w _
  refine ev_iload_n dX11_parts_0 rfl ?_
  exact ev_callSx kX11_97 (qX11_needRealm_n hx) dX11_parts_1 rfl (by decide) (by decide) rfl rfl
set_option maxRecDepth 4000 in
theorem qX11_parts_y {G : GX} {w : WS} {S : ST} (hS : cm_ S w) {r : Nat} (hr : r < 4) : ∃ o w2, (pQ ["java/lang/IndexOutOfBoundsException"] (0, nI (ccS S (nI r))) w o w2) ∧ Big G 6 1 mX11_parts [.ref 0, .int (nI r)] w o w2 := by
  refine bx_of (P := pQ ["java/lang/IndexOutOfBoundsException"] (0, nI (ccS S (nI r))) w) (by decide +kernel) (Nat.le_of_ble_eq_true rfl) ?_
  show Ex G 6 1 mX11_parts 0 [some (.ref 0), some (.int (nI r))] [] w _
  refine ex_s (fun _ => ev_iload_n dX11_parts_0 rfl) ?_
  refine ex_s (fun _ => ev_callS kX11_97 (qX11_needRealm_y hr) dX11_parts_1 rfl (by decide) (by decide) rfl) ?_
  refine ex_s (fun _ => ev_aload_n dX11_parts_4 rfl) ?_
  refine ex_s (fun _ => ev_getR fX11_66 dX11_parts_5 (by decide) sh0 rfl) ?_
  refine ex_s (fun _ => ev_aload_n dX11_parts_8 rfl) ?_
  refine ex_s (fun _ => ev_getR fX11_10 dX11_parts_9 (by decide) sh0 rfl) ?_
  refine ex_s (fun _ => ev_iload_n dX11_parts_12 rfl) ?_
  obtain ⟨_, w3, ⟨rfl, g1⟩, hB3⟩ := qX6_byGoing (G := G) hS (r := nI r)
  refine ex_s (fun _ => ev_callV kX11_210 co112 hB3 dX11_parts_13 rfl (by decide) (by decide) rfl) ?_
  exact ⟨_, _, (by exact ⟨rfl, frG_L g1 (by decide)⟩), ev_iret dX11_parts_16 rfl rfl rfl rfl⟩
theorem qX11_parts {G : GX} {w : WS} {S : ST} (hS : cm_ S w) (x : Int32) : ∃ o w2, pQ ["java/lang/IndexOutOfBoundsException"] (qPa S x) w o w2 ∧ Big G 6 1 mX11_parts [.ref 0, .int x] w o w2 := by
  unfold qPa
  rcases ixN_or 4 (by decide) x with ⟨h1, e1⟩ | ⟨r, h1, rfl, e1⟩
  · rw [e1]; exact ⟨_, w, ⟨rfl, frG_rf⟩, qX11_parts_n hS h1⟩
  · rw [e1]; exact qX11_parts_y hS h1
set_option maxRecDepth 4000 in
theorem qX11_partsAgain_n {G : GX} {w : WS} {S : ST} (hS : cm_ S w) {x : Int32} (hx : out_ 4 x) : Big G 6 1 mX11_partsAgain [.ref 0, .int x] w (.inr "java/lang/IndexOutOfBoundsException") w := by
  refine big_of (by decide +kernel) (Nat.le_of_ble_eq_true rfl) ?_
  have hS0 := hS
  obtain ⟨hO, hC, hR, hRv, hD, hDv, hM0, hM1, hM2, hM3, hM4⟩ := cm_cells hS
  obtain ⟨hch, hk1, hk2, hk3, hk4⟩ := hS
  have h5 := hk2.1
  have h6 := hk3.1
  show Ev G 6 1 mX11_partsAgain 0 [some (.ref 0), some (.int x)] [] w _
  refine ev_iload_n dX11_partsAgain_0 rfl ?_
  exact ev_callSx kX11_97 (qX11_needRealm_n hx) dX11_partsAgain_1 rfl (by decide) (by decide) rfl rfl
set_option maxRecDepth 4000 in
theorem qX11_partsAgain_y {G : GX} {w : WS} {S : ST} (hS : cm_ S w) {r : Nat} (hr : r < 4) : ∃ o w2, (pQ ["java/lang/IndexOutOfBoundsException"] (0, nI (ccS S (nI r))) w o w2) ∧ Big G 6 1 mX11_partsAgain [.ref 0, .int (nI r)] w o w2 := by
  refine bx_of (P := pQ ["java/lang/IndexOutOfBoundsException"] (0, nI (ccS S (nI r))) w) (by decide +kernel) (Nat.le_of_ble_eq_true rfl) ?_
  show Ex G 6 1 mX11_partsAgain 0 [some (.ref 0), some (.int (nI r))] [] w _
  refine ex_s (fun _ => ev_iload_n dX11_partsAgain_0 rfl) ?_
  refine ex_s (fun _ => ev_callS kX11_97 (qX11_needRealm_y hr) dX11_partsAgain_1 rfl (by decide) (by decide) rfl) ?_
  refine ex_s (fun _ => ev_aload_n dX11_partsAgain_4 rfl) ?_
  refine ex_s (fun _ => ev_getR fX11_66 dX11_partsAgain_5 (by decide) sh0 rfl) ?_
  refine ex_s (fun _ => ev_aload_n dX11_partsAgain_8 rfl) ?_
  refine ex_s (fun _ => ev_getR fX11_10 dX11_partsAgain_9 (by decide) sh0 rfl) ?_
  refine ex_s (fun _ => ev_iload_n dX11_partsAgain_12 rfl) ?_
  obtain ⟨_, w3, ⟨rfl, g1⟩, hB3⟩ := qX6_byJoining (G := G) hS (r := nI r)
  refine ex_s (fun _ => ev_callV kX11_213 co112 hB3 dX11_partsAgain_13 rfl (by decide) (by decide) rfl) ?_
  exact ⟨_, _, (by exact ⟨rfl, frG_L g1 (by decide)⟩), ev_iret dX11_partsAgain_16 rfl rfl rfl rfl⟩
theorem qX11_partsAgain {G : GX} {w : WS} {S : ST} (hS : cm_ S w) (x : Int32) : ∃ o w2, pQ ["java/lang/IndexOutOfBoundsException"] (qPa S x) w o w2 ∧ Big G 6 1 mX11_partsAgain [.ref 0, .int x] w o w2 := by
  unfold qPa
  rcases ixN_or 4 (by decide) x with ⟨h1, e1⟩ | ⟨r, h1, rfl, e1⟩
  · rw [e1]; exact ⟨_, w, ⟨rfl, frG_rf⟩, qX11_partsAgain_n hS h1⟩
  · rw [e1]; exact qX11_partsAgain_y hS h1
set_option maxRecDepth 4000 in
theorem qX11_couldShave_n {G : GX} {w : WS} {S : ST} (hS : cm_ S w) {x : Int32} (hx : out_ 64 x) (y : Int32) : Big G 5 1 mX11_couldShave [.ref 0, .int x, .int y] w (.inr "java/lang/IndexOutOfBoundsException") w := by
  refine big_of (by decide +kernel) (Nat.le_of_ble_eq_true rfl) ?_
  have hS0 := hS
  obtain ⟨hO, hC, hR, hRv, hD, hDv, hM0, hM1, hM2, hM3, hM4⟩ := cm_cells hS
  obtain ⟨hch, hk1, hk2, hk3, hk4⟩ := hS
  have h5 := hk2.1
  have h6 := hk3.1
  show Ev G 5 1 mX11_couldShave 0 [some (.ref 0), some (.int x), some (.int y)] [] w _
  refine ev_iload_n dX11_couldShave_0 rfl ?_
  exact ev_callSx kX11_74 (qX11_needCell_n hx) dX11_couldShave_1 rfl (by decide) (by decide) rfl rfl
set_option maxRecDepth 4000 in
theorem qX11_couldShave_m {G : GX} {w : WS} {S : ST} (hS : cm_ S w) {r : Nat} (hr : r < 64) {y : Int32} (hy : out_ 4 y) : Big G 5 1 mX11_couldShave [.ref 0, .int (nI r), .int y] w (.inr "java/lang/IndexOutOfBoundsException") w := by
  refine big_of (by decide +kernel) (Nat.le_of_ble_eq_true rfl) ?_
  have hS0 := hS
  obtain ⟨hO, hC, hR, hRv, hD, hDv, hM0, hM1, hM2, hM3, hM4⟩ := cm_cells hS
  obtain ⟨hch, hk1, hk2, hk3, hk4⟩ := hS
  have h5 := hk2.1
  have h6 := hk3.1
  show Ev G 5 1 mX11_couldShave 0 [some (.ref 0), some (.int (nI r)), some (.int y)] [] w _
  refine ev_iload_n dX11_couldShave_0 rfl ?_
  refine ev_callS kX11_74 (qX11_needCell_y hr) dX11_couldShave_1 rfl (by decide) (by decide) rfl ?_
  refine ev_iload_n dX11_couldShave_4 rfl ?_
  exact ev_callSx kX11_97 (qX11_needRealm_n hy) dX11_couldShave_5 rfl (by decide) (by decide) rfl rfl
set_option maxRecDepth 4000 in
theorem qX11_couldShave_y {G : GX} {w : WS} {S : ST} (hS : cm_ S w) {r k : Nat} (hr : r < 64) (hk : k < 4) : Big G 5 1 mX11_couldShave [.ref 0, .int (nI r), .int (nI k)] w (.inl (some (.int (bI (canB S (nI k) r))))) w := by
  refine big_of (by decide +kernel) (Nat.le_of_ble_eq_true rfl) ?_
  have hS0 := hS
  obtain ⟨hO, hC, hR, hRv, hD, hDv, hM0, hM1, hM2, hM3, hM4⟩ := cm_cells hS
  obtain ⟨hch, hk1, hk2, hk3, hk4⟩ := hS
  have h5 := hk2.1
  have h6 := hk3.1
  show Ev G 5 1 mX11_couldShave 0 [some (.ref 0), some (.int (nI r)), some (.int (nI k))] [] w _
  refine ev_iload_n dX11_couldShave_0 rfl ?_
  refine ev_callS kX11_74 (qX11_needCell_y hr) dX11_couldShave_1 rfl (by decide) (by decide) rfl ?_
  refine ev_iload_n dX11_couldShave_4 rfl ?_
  refine ev_callS kX11_97 (qX11_needRealm_y hk) dX11_couldShave_5 rfl (by decide) (by decide) rfl ?_
  refine ev_aload_n dX11_couldShave_8 rfl ?_
  refine ev_getR fX11_10 dX11_couldShave_9 (by decide) sh0 rfl ?_
  refine ev_iload_n dX11_couldShave_12 rfl ?_
  refine ev_iload_n dX11_couldShave_13 rfl ?_
  refine ev_callS kX11_216 (qX5_againstShaving hS0 hr) dX11_couldShave_14 rfl (by decide) (by decide) rfl ?_
  refine ev_if_ne (tgt := 24) dX11_couldShave_17 (by decide) (fun hc17 => ?_) (fun hc17 => ?_)
  · have e17 : ¬ shS S r (nI k) = 0 := fun q => hc17 (by rw [q]; rfl)
    refine ev_iconst dX11_couldShave_24 ic0 ?_
    exact ev_iret dX11_couldShave_25 rfl rfl (obF (decide_eq_false e17)) rfl
  · have e17 : shS S r (nI k) = 0 := nI_inj (by have := (shS_le S r (nI k)).1; omega) (by decide) hc17
    refine ev_iconst dX11_couldShave_20 ic1 ?_
    refine ev_goto (tgt := 25) dX11_couldShave_21 (by decide) ?_
    exact ev_iret dX11_couldShave_25 rfl rfl (obT (decide_eq_true e17)) rfl
theorem qX11_couldShave {G : GX} {w : WS} {S : ST} (hS : cm_ S w) (x y : Int32) : Big G 5 1 mX11_couldShave [.ref 0, .int x, .int y] w (cOut ["java/lang/IndexOutOfBoundsException"] (qCs S x y)) w := by
  unfold qCs
  rcases ixN_or 64 (by decide) x with ⟨h1, e1⟩ | ⟨r, h1, rfl, e1⟩
  · rw [e1]; exact qX11_couldShave_n hS h1 y
  · rw [e1]
    dsimp only
    rcases ixN_or 4 (by decide) y with ⟨h2, e2⟩ | ⟨k, h2, rfl, e2⟩
    · rw [e2]; exact qX11_couldShave_m hS h1 h2
    · rw [e2]
      exact qX11_couldShave_y hS h1 h2
set_option maxRecDepth 4000 in
theorem qX11_shavable_n {G : GX} {w : WS} {S : ST} (hS : cm_ S w) {x : Int32} (hx : out_ 4 x) : Big G 5 1 mX11_shavable [.ref 0, .int x] w (.inr "java/lang/IndexOutOfBoundsException") w := by
  refine big_of (by decide +kernel) (Nat.le_of_ble_eq_true rfl) ?_
  have hS0 := hS
  obtain ⟨hO, hC, hR, hRv, hD, hDv, hM0, hM1, hM2, hM3, hM4⟩ := cm_cells hS
  obtain ⟨hch, hk1, hk2, hk3, hk4⟩ := hS
  have h5 := hk2.1
  have h6 := hk3.1
  show Ev G 5 1 mX11_shavable 0 [some (.ref 0), some (.int x), none, none] [] w _
  refine ev_iload_n dX11_shavable_0 rfl ?_
  exact ev_callSx kX11_97 (qX11_needRealm_n hx) dX11_shavable_1 rfl (by decide) (by decide) rfl rfl
set_option maxRecDepth 4000 in
theorem qX11_shavable_y {G : GX} {w : WS} {S : ST} (hS : cm_ S w) {r : Nat} (hr : r < 4) : Big G 5 1 mX11_shavable [.ref 0, .int (nI r)] w (.inl (some (.int (nI (ct (canB S (nI r)) 64))))) w := by
  refine big_of (by decide +kernel) (Nat.le_of_ble_eq_true rfl) ?_
  have hS0 := hS
  obtain ⟨hO, hC, hR, hRv, hD, hDv, hM0, hM1, hM2, hM3, hM4⟩ := cm_cells hS
  obtain ⟨hch, hk1, hk2, hk3, hk4⟩ := hS
  have h5 := hk2.1
  have h6 := hk3.1
  show Ev G 5 1 mX11_shavable 0 [some (.ref 0), some (.int (nI r)), none, none] [] w _
  refine ev_iload_n dX11_shavable_0 rfl ?_
  refine ev_callS kX11_97 (qX11_needRealm_y hr) dX11_shavable_1 rfl (by decide) (by decide) rfl ?_
  refine ev_iconst dX11_shavable_4 ic0 ?_
  refine ev_ist2 dX11_shavable_5 (by decide) rfl ?_
  refine ev_iconst dX11_shavable_6 ic0 ?_
  refine ev_ist3 dX11_shavable_7 (by decide) rfl ?_
  have lp : ∀ (n9 j : Nat) , j + n9 = 64 → Ev G 5 1 mX11_shavable 8 [some (.ref 0), some (.int (nI r)), some (.int (nI (ct (canB S (nI r)) j))), some (.int (nI j))] [] w (zu_ G (.inl (some (.int (nI (ct (canB S (nI r)) 64))))) w) := by
    intro n9
    induction n9 with
    | zero =>
      intro j  hi9 
      refine ev_iload_n dX11_shavable_8 rfl ?_
      refine ev_bipush (v := nI 64) dX11_shavable_9 (by decide) ?_
      refine ev_icmp_ge_t (tgt := 35) dX11_shavable_11 (by decide) (nI_le (by omega) (by omega)) ?_
      refine ev_iload_n dX11_shavable_35 rfl ?_
      exact ev_iret dX11_shavable_36 rfl rfl (by rw [show j = 64 by omega]) rfl
    | succ n9 ih =>
      intro j  hi9 
      refine ev_iload_n dX11_shavable_8 rfl ?_
      refine ev_bipush (v := nI 64) dX11_shavable_9 (by decide) ?_
      refine ev_icmp_ge_f (tgt := 35) dX11_shavable_11 (by decide) (nI_ge (by omega) (by decide)) ?_
      refine ev_aload_n dX11_shavable_14 rfl ?_
      refine ev_getR fX11_10 dX11_shavable_15 (by decide) sh0 rfl ?_
      refine ev_iload_n dX11_shavable_18 rfl ?_
      refine ev_iload_n dX11_shavable_19 rfl ?_
      refine ev_callS kX11_216 (qX5_againstShaving hS0 (by omega)) dX11_shavable_20 rfl (by decide) (by decide) rfl ?_
      refine ev_if_ne (tgt := 29) dX11_shavable_23 (by decide) (fun hc23 => ?_) (fun hc23 => ?_)
      · have e23 : canB S (nI r) j = false := decide_eq_false (fun q => hc23 (by rw [q]; rfl))
        rw [← ct_f (p := canB S (nI r)) e23]
        refine ev_iinc3 dX11_shavable_29 (nI_inc _) (by decide) rfl ?_
        refine ev_goto (tgt := 8) dX11_shavable_32 (by decide) ?_
        exact ih (j + 1) (by omega)
      · have e23 : canB S (nI r) j = true := decide_eq_true (nI_inj (by have := (shS_le S j (nI r)).1; omega) (by decide) hc23)
        refine ev_iinc2 dX11_shavable_26 (nI_inc _) (by decide) rfl ?_
        rw [← ct_t (p := canB S (nI r)) e23]
        refine ev_iinc3 dX11_shavable_29 (nI_inc _) (by decide) rfl ?_
        refine ev_goto (tgt := 8) dX11_shavable_32 (by decide) ?_
        exact ih (j + 1) (by omega)
  exact lp 64 0 rfl
theorem qX11_shavable {G : GX} {w : WS} {S : ST} (hS : cm_ S w) (x : Int32) : Big G 5 1 mX11_shavable [.ref 0, .int x] w (cOut ["java/lang/IndexOutOfBoundsException"] (qSh S x)) w := by
  unfold qSh
  rcases ixN_or 4 (by decide) x with ⟨h1, e1⟩ | ⟨r, h1, rfl, e1⟩
  · rw [e1]; exact qX11_shavable_n hS h1
  · rw [e1]; exact qX11_shavable_y hS h1
set_option maxRecDepth 4000 in
theorem qX11_lies_n {G : GX} {w : WS} {S : ST} (hS : cm_ S w) {b : Bool} {x : Int32} (hx : x < nI 1 ∨ nI 8 ≤ x) : Big G 6 1 mX11_lies [.ref 0, .int (bI b), .int x] w (.inr "java/lang/IllegalArgumentException") w := by
  refine big_of (by decide +kernel) (Nat.le_of_ble_eq_true rfl) ?_
  have hS0 := hS
  obtain ⟨hO, hC, hR, hRv, hD, hDv, hM0, hM1, hM2, hM3, hM4⟩ := cm_cells hS
  obtain ⟨hch, hk1, hk2, hk3, hk4⟩ := hS
  have h5 := hk2.1
  have h6 := hk3.1
  show Ev G 6 1 mX11_lies 0 [some (.ref 0), some (.int (bI b)), some (.int x)] [] w _
  refine ev_iload_n dX11_lies_0 rfl ?_
  exact ev_callSx kX11_221 (qX11_needCrease_n hx) dX11_lies_1 rfl (by decide) (by decide) rfl rfl
set_option maxRecDepth 4000 in
theorem qX11_lies_y {G : GX} {w : WS} {S : ST} (hS : cm_ S w) {b : Bool} {c : Nat} (h1 : 1 ≤ c) (h8 : c < 8) : Big G 6 1 mX11_lies [.ref 0, .int (bI b), .int (nI c)] w (.inl (some (.int (nI (lys S b c))))) w := by
  refine big_of (by decide +kernel) (Nat.le_of_ble_eq_true rfl) ?_
  have hS0 := hS
  obtain ⟨hO, hC, hR, hRv, hD, hDv, hM0, hM1, hM2, hM3, hM4⟩ := cm_cells hS
  obtain ⟨hch, hk1, hk2, hk3, hk4⟩ := hS
  have h5 := hk2.1
  have h6 := hk3.1
  show Ev G 6 1 mX11_lies 0 [some (.ref 0), some (.int (bI b)), some (.int (nI c))] [] w _
  refine ev_iload_n dX11_lies_0 rfl ?_
  refine ev_callS kX11_221 (qX11_needCrease_y h1 h8) dX11_lies_1 rfl (by decide) (by decide) rfl ?_
  refine ev_aload_n dX11_lies_4 rfl ?_
  refine ev_getR fX11_10 dX11_lies_5 (by decide) sh0 rfl ?_
  refine ev_iload_n dX11_lies_8 rfl ?_
  refine ev_iload_n dX11_lies_9 rfl ?_
  refine ev_callS kX11_224 (qX3_pairByPair hS0 h1 (by omega)) dX11_lies_10 rfl (by decide) (by decide) rfl ?_
  exact ev_iret dX11_lies_13 rfl rfl rfl rfl
theorem qX11_lies {G : GX} {w : WS} {S : ST} (hS : cm_ S w) (b : Bool) (x : Int32) : Big G 6 1 mX11_lies [.ref 0, .int (bI b), .int x] w (cOut ["java/lang/IllegalArgumentException"] (qLi S b x)) w := by
  unfold qLi
  rcases ixN_or 8 (by decide) x with ⟨h1, e1⟩ | ⟨c, h1, rfl, e1⟩
  · rw [e1]
    refine qX11_lies_n hS (h1.elim (fun q => Or.inl (Int32.lt_trans q (by decide))) Or.inr)
  · rw [e1]
    dsimp only
    by_cases e : c = 0
    · rw [if_pos e, e]; exact qX11_lies_n hS (Or.inl (by decide))
    · rw [if_neg e]; exact qX11_lies_y hS (by omega) h1
set_option maxRecDepth 4000 in
theorem qX11_liesAgain_n {G : GX} {w : WS} {S : ST} (hS : cm_ S w) {b : Bool} {x : Int32} (hx : x < nI 1 ∨ nI 8 ≤ x) : Big G 6 1 mX11_liesAgain [.ref 0, .int (bI b), .int x] w (.inr "java/lang/IllegalArgumentException") w := by
  refine big_of (by decide +kernel) (Nat.le_of_ble_eq_true rfl) ?_
  have hS0 := hS
  obtain ⟨hO, hC, hR, hRv, hD, hDv, hM0, hM1, hM2, hM3, hM4⟩ := cm_cells hS
  obtain ⟨hch, hk1, hk2, hk3, hk4⟩ := hS
  have h5 := hk2.1
  have h6 := hk3.1
  show Ev G 6 1 mX11_liesAgain 0 [some (.ref 0), some (.int (bI b)), some (.int x)] [] w _
  refine ev_iload_n dX11_liesAgain_0 rfl ?_
  exact ev_callSx kX11_221 (qX11_needCrease_n hx) dX11_liesAgain_1 rfl (by decide) (by decide) rfl rfl
set_option maxRecDepth 4000 in
theorem qX11_liesAgain_y {G : GX} {w : WS} {S : ST} (hS : cm_ S w) {b : Bool} {c : Nat} (h1 : 1 ≤ c) (h8 : c < 8) : Big G 6 1 mX11_liesAgain [.ref 0, .int (bI b), .int (nI c)] w (.inl (some (.int (nI (lys S b c))))) w := by
  refine big_of (by decide +kernel) (Nat.le_of_ble_eq_true rfl) ?_
  have hS0 := hS
  obtain ⟨hO, hC, hR, hRv, hD, hDv, hM0, hM1, hM2, hM3, hM4⟩ := cm_cells hS
  obtain ⟨hch, hk1, hk2, hk3, hk4⟩ := hS
  have h5 := hk2.1
  have h6 := hk3.1
  show Ev G 6 1 mX11_liesAgain 0 [some (.ref 0), some (.int (bI b)), some (.int (nI c))] [] w _
  refine ev_iload_n dX11_liesAgain_0 rfl ?_
  refine ev_callS kX11_221 (qX11_needCrease_y h1 h8) dX11_liesAgain_1 rfl (by decide) (by decide) rfl ?_
  refine ev_aload_n dX11_liesAgain_4 rfl ?_
  refine ev_getR fX11_10 dX11_liesAgain_5 (by decide) sh0 rfl ?_
  refine ev_iload_n dX11_liesAgain_8 rfl ?_
  refine ev_iload_n dX11_liesAgain_9 rfl ?_
  refine ev_callS kX11_230 (qX3_realmByRealm hS0 h1 (by omega)) dX11_liesAgain_10 rfl (by decide) (by decide) rfl ?_
  exact ev_iret dX11_liesAgain_13 rfl rfl rfl rfl
theorem qX11_liesAgain {G : GX} {w : WS} {S : ST} (hS : cm_ S w) (b : Bool) (x : Int32) : Big G 6 1 mX11_liesAgain [.ref 0, .int (bI b), .int x] w (cOut ["java/lang/IllegalArgumentException"] (qLi S b x)) w := by
  unfold qLi
  rcases ixN_or 8 (by decide) x with ⟨h1, e1⟩ | ⟨c, h1, rfl, e1⟩
  · rw [e1]
    refine qX11_liesAgain_n hS (h1.elim (fun q => Or.inl (Int32.lt_trans q (by decide))) Or.inr)
  · rw [e1]
    dsimp only
    by_cases e : c = 0
    · rw [if_pos e, e]; exact qX11_liesAgain_n hS (Or.inl (by decide))
    · rw [if_neg e]; exact qX11_liesAgain_y hS (by omega) h1
theorem lys_l32 (S : ST) (b : Bool) (c : Nat) : lys S b c ≤ 32 := by
  have h := sm_le (f := lyk S b c) (b := 8) (n := dp_ c) (fun i _ => ct_le _ _)
  have : dp_ c ≤ 4 := by unfold dp_; omega
  unfold lys
  omega
theorem awr_le {S : ST} (hk : okS S) (m : Nat) (hm : m ≤ 9) : awr S m ≤ 1000 := by
  have h := sm_le (f := wr S m) (b := 207) (n := nR S) (fun i hi => by
    have h1 := hk.2.1.2 i hi
    have : rN S i * m ≤ 12 * 9 := Nat.mul_le_mul h1.2.2.1 hm
    unfold wr
    omega)
  have := hk.2.1.1
  unfold awr
  omega
set_option maxRecDepth 4000 in
theorem qX11_bestFold_y {G : GX} {w : WS} {S : ST} (hS : cm_ S w) {b : Bool} : Big G 5 1 mX11_bestFold [.ref 0, .int (bI b)] w (.inl (some (.int (nI (bst (lys S b) 7))))) w := by
  refine big_of (by decide +kernel) (Nat.le_of_ble_eq_true rfl) ?_
  have hS0 := hS
  obtain ⟨hO, hC, hR, hRv, hD, hDv, hM0, hM1, hM2, hM3, hM4⟩ := cm_cells hS
  obtain ⟨hch, hk1, hk2, hk3, hk4⟩ := hS
  have h5 := hk2.1
  have h6 := hk3.1
  show Ev G 5 1 mX11_bestFold 0 [some (.ref 0), some (.int (bI b)), none, none, none, none] [] w _
  refine ev_iconst dX11_bestFold_0 ic1 ?_
  refine ev_ist2 dX11_bestFold_1 (by decide) rfl ?_
  refine ev_aload_n dX11_bestFold_2 rfl ?_
  refine ev_getR fX11_10 dX11_bestFold_3 (by decide) sh0 rfl ?_
  refine ev_iload_n dX11_bestFold_6 rfl ?_
  refine ev_iload_n dX11_bestFold_7 rfl ?_
  refine ev_callS kX11_224 (qX3_pairByPair hS0 (c := 1) (by decide) (by decide)) dX11_bestFold_8 rfl (by decide) (by decide) rfl ?_
  refine ev_ist3 dX11_bestFold_11 (by decide) rfl ?_
  refine ev_iconst dX11_bestFold_12 ic2 ?_
  refine ev_ist4 dX11_bestFold_13 (by decide) rfl ?_
  have lp : ∀ (n9 j : Nat) , j + n9 = 8 → 2 ≤ j → Ev G 5 1 mX11_bestFold 15 [some (.ref 0), some (.int (bI b)), some (.int (nI (bst (lys S b) (j - 1)))), some (.int (nI (lys S b (bst (lys S b) (j - 1))))), some (.int (nI j)), none] [] w (zu_ G (.inl (some (.int (nI (bst (lys S b) 7))))) w) := by
    intro n9
    induction n9 with
    | zero =>
      intro j  hi9 hj
      refine ev_iload dX11_bestFold_15 rfl ?_
      refine ev_bipush (v := nI 8) dX11_bestFold_17 (by decide) ?_
      refine ev_icmp_ge_t (tgt := 52) dX11_bestFold_19 (by decide) (nI_le (by omega) (by omega)) ?_
      refine ev_iload_n dX11_bestFold_52 rfl ?_
      exact ev_iret dX11_bestFold_53 rfl rfl (by rw [show j - 1 = 7 by omega]) rfl
    | succ n9 ih =>
      intro j  hi9 hj
      refine ev_iload dX11_bestFold_15 rfl ?_
      refine ev_bipush (v := nI 8) dX11_bestFold_17 (by decide) ?_
      refine ev_icmp_ge_f (tgt := 52) dX11_bestFold_19 (by decide) (nI_ge (by omega) (by decide)) ?_
      refine ev_aload_n dX11_bestFold_22 rfl ?_
      refine ev_getR fX11_10 dX11_bestFold_23 (by decide) sh0 rfl ?_
      refine ev_iload_n dX11_bestFold_26 rfl ?_
      refine ev_iload dX11_bestFold_27 rfl ?_
      refine ev_callS kX11_224 (qX3_pairByPair hS0 (by omega) (by omega)) dX11_bestFold_29 rfl (by decide) (by decide) rfl ?_
      refine ev_ist5 dX11_bestFold_32 (by decide) rfl ?_
      refine ev_iload dX11_bestFold_34 rfl ?_
      refine ev_iload_n dX11_bestFold_36 rfl ?_
      have hb2 := bst_le (lys S b) (j - 1) (by omega)
      have hl1 := lys_l32 S b j
      have hl2 := lys_l32 S b (bst (lys S b) (j - 1))
      have hs := bst_s (lys S b) (n := j - 1) (by omega)
      rw [show j - 1 + 1 = j by omega] at hs
      refine ev_icmp_ge (tgt := 46) dX11_bestFold_37 (by decide) (fun hc37 => ?_) (fun hc37 => ?_)
      · have e37 : ¬ lys S b j < lys S b (bst (lys S b) (j - 1)) := fun q => nI_ge q (by omega) hc37
        rw [if_neg e37] at hs
        refine ev_iinc4 dX11_bestFold_46 (nI_inc _) (by decide) rfl ?_
        refine ev_goto (tgt := 15) dX11_bestFold_49 (by decide) ?_
        refine ev_fg5 ?_
        have q := ih (j + 1) (by omega) (by omega)
        rw [show j + 1 - 1 = j by omega, hs] at q
        exact q
      · have e37 : lys S b j < lys S b (bst (lys S b) (j - 1)) := Nat.lt_of_not_le (fun q => hc37 (nI_le q (by omega)))
        rw [if_pos e37] at hs
        refine ev_iload dX11_bestFold_40 rfl ?_
        refine ev_ist2 dX11_bestFold_42 (by decide) rfl ?_
        refine ev_iload dX11_bestFold_43 rfl ?_
        refine ev_ist3 dX11_bestFold_45 (by decide) rfl ?_
        refine ev_iinc4 dX11_bestFold_46 (nI_inc _) (by decide) rfl ?_
        refine ev_goto (tgt := 15) dX11_bestFold_49 (by decide) ?_
        refine ev_fg5 ?_
        have q := ih (j + 1) (by omega) (by omega)
        rw [show j + 1 - 1 = j by omega, hs] at q
        exact q
  exact lp 6 2 rfl (Nat.le_refl _)
def qWr (S : ST) : Int32 := nI (awr S (oN_ (sM S 0)))
set_option maxRecDepth 4000 in
theorem qX11_wrong_y {G : GX} {w : WS} {S : ST} (hS : cm_ S w) : Big G 5 1 mX11_wrong [.ref 0] w (.inl (some (.int (qWr S)))) w := by
  refine big_of (by decide +kernel) (Nat.le_of_ble_eq_true rfl) ?_
  have hS0 := hS
  obtain ⟨hO, hC, hR, hRv, hD, hDv, hM0, hM1, hM2, hM3, hM4⟩ := cm_cells hS
  obtain ⟨hch, hk1, hk2, hk3, hk4⟩ := hS
  have h5 := hk2.1
  have h6 := hk3.1
  obtain ⟨mm, hm1, hm9, hm0⟩ := hk4
  show Ev G 5 1 mX11_wrong 0 [some (.ref 0)] [] w _
  refine ev_aload_n dX11_wrong_0 rfl ?_
  refine ev_getR fX11_10 dX11_wrong_1 (by decide) sh0 rfl ?_
  refine ev_aload_n dX11_wrong_4 rfl ?_
  refine ev_getR fX11_10 dX11_wrong_5 (by decide) sh0 rfl ?_
  refine ev_getI fX11_168 dX11_wrong_8 (by decide) sh1 rfl ?_
  refine ev_top (hM0.trans hm0) ?_
  refine ev_callS kX11_233 (qX10_allWrongBy hS0 hm9) dX11_wrong_11 rfl (by decide) (by decide) rfl ?_
  exact ev_iret dX11_wrong_14 rfl rfl (by unfold qWr; rw [hm0, oN_nI (by omega)]) rfl
set_option maxRecDepth 4000 in
theorem qX11_bestScale_n {G : GX} {w : WS} {S : ST} (hS : cm_ S w) (hn : nR S = 0) : Big G 5 1 mX11_bestScale [.ref 0] w (.inr "java/util/NoSuchElementException") w := by
  refine big_of (by decide +kernel) (Nat.le_of_ble_eq_true rfl) ?_
  have hS0 := hS
  obtain ⟨hO, hC, hR, hRv, hD, hDv, hM0, hM1, hM2, hM3, hM4⟩ := cm_cells hS
  obtain ⟨hch, hk1, hk2, hk3, hk4⟩ := hS
  have h5 := hk2.1
  have h6 := hk3.1
  show Ev G 5 1 mX11_bestScale 0 [some (.ref 0), none, none, none, none] [] w _
  refine ev_aload_n dX11_bestScale_0 rfl ?_
  refine ev_getR fX11_10 dX11_bestScale_1 (by decide) sh0 rfl ?_
  refine ev_getI fX11_236 dX11_bestScale_4 (by decide) sh1 rfl ?_
  refine ev_top (hR.trans (by rw [hn])) ?_
  refine ev_if_ne_f (tgt := 20) dX11_bestScale_7 (by decide) rfl ?_
  exact ev_throwN tX11_176_239_180 dX11_bestScale_10 dX11_bestScale_13 dX11_bestScale_14 dX11_bestScale_16 dX11_bestScale_19 (by decide) rfl rfl
set_option maxRecDepth 4000 in
theorem qX11_bestScale_y {G : GX} {w : WS} {S : ST} (hS : cm_ S w) (hn : nR S ≠ 0) : Big G 5 1 mX11_bestScale [.ref 0] w (.inl (some (.int (nI (bst (awr S) 9))))) w := by
  refine big_of (by decide +kernel) (Nat.le_of_ble_eq_true rfl) ?_
  have hS0 := hS
  obtain ⟨hO, hC, hR, hRv, hD, hDv, hM0, hM1, hM2, hM3, hM4⟩ := cm_cells hS
  obtain ⟨hch, hk1, hk2, hk3, hk4⟩ := hS
  have h5 := hk2.1
  have h6 := hk3.1
  show Ev G 5 1 mX11_bestScale 0 [some (.ref 0), none, none, none, none] [] w _
  refine ev_aload_n dX11_bestScale_0 rfl ?_
  refine ev_getR fX11_10 dX11_bestScale_1 (by decide) sh0 rfl ?_
  refine ev_getI fX11_236 dX11_bestScale_4 (by decide) sh1 rfl ?_
  refine ev_top hR ?_
  refine ev_if_ne_t (tgt := 20) dX11_bestScale_7 (by decide) (fun q => hn (nI_inj (by omega) (by decide) q)) ?_
  refine ev_iconst dX11_bestScale_20 ic1 ?_
  refine ev_ist1 dX11_bestScale_21 (by decide) rfl ?_
  refine ev_aload_n dX11_bestScale_22 rfl ?_
  refine ev_getR fX11_10 dX11_bestScale_23 (by decide) sh0 rfl ?_
  refine ev_iload_n dX11_bestScale_26 rfl ?_
  refine ev_callS kX11_233 (qX10_allWrongBy hS0 (k := 1) (by decide)) dX11_bestScale_27 rfl (by decide) (by decide) rfl ?_
  refine ev_ist2 dX11_bestScale_30 (by decide) rfl ?_
  refine ev_iconst dX11_bestScale_31 ic2 ?_
  refine ev_ist3 dX11_bestScale_32 (by decide) rfl ?_
  have lp : ∀ (n9 j : Nat) , j + n9 = 10 → 2 ≤ j → Ev G 5 1 mX11_bestScale 33 [some (.ref 0), some (.int (nI (bst (awr S) (j - 1)))), some (.int (nI (awr S (bst (awr S) (j - 1))))), some (.int (nI j)), none] [] w (zu_ G (.inl (some (.int (nI (bst (awr S) 9))))) w) := by
    intro n9
    induction n9 with
    | zero =>
      intro j  hi9 hj
      refine ev_iload_n dX11_bestScale_33 rfl ?_
      refine ev_bipush (v := nI 9) dX11_bestScale_34 (by decide) ?_
      refine ev_icmp_gt_t (tgt := 66) dX11_bestScale_36 (by decide) ((pk_lt' (by decide) (by omega)).mpr (by omega)) ?_
      refine ev_iload_n dX11_bestScale_66 rfl ?_
      exact ev_iret dX11_bestScale_67 rfl rfl (by rw [show j - 1 = 9 by omega]) rfl
    | succ n9 ih =>
      intro j  hi9 hj
      refine ev_iload_n dX11_bestScale_33 rfl ?_
      refine ev_bipush (v := nI 9) dX11_bestScale_34 (by decide) ?_
      refine ev_icmp_gt_f (tgt := 66) dX11_bestScale_36 (by decide) (nI_gtf (by omega) (by decide)) ?_
      refine ev_aload_n dX11_bestScale_39 rfl ?_
      refine ev_getR fX11_10 dX11_bestScale_40 (by decide) sh0 rfl ?_
      refine ev_iload_n dX11_bestScale_43 rfl ?_
      refine ev_callS kX11_233 (qX10_allWrongBy hS0 (by omega)) dX11_bestScale_44 rfl (by decide) (by decide) rfl ?_
      refine ev_ist4 dX11_bestScale_47 (by decide) rfl ?_
      refine ev_iload dX11_bestScale_49 rfl ?_
      refine ev_iload_n dX11_bestScale_51 rfl ?_
      have hb2 := bst_le (awr S) (j - 1) (by omega)
      have hl1 := awr_le hS0.2 j (by omega)
      have hl2 := awr_le hS0.2 (bst (awr S) (j - 1)) (by omega)
      have hs := bst_s (awr S) (n := j - 1) (by omega)
      rw [show j - 1 + 1 = j by omega] at hs
      refine ev_icmp_ge (tgt := 60) dX11_bestScale_52 (by decide) (fun hc52 => ?_) (fun hc52 => ?_)
      · have e52 : ¬ awr S j < awr S (bst (awr S) (j - 1)) := fun q => nI_ge q (by omega) hc52
        rw [if_neg e52] at hs
        refine ev_iinc3 dX11_bestScale_60 (nI_inc _) (by decide) rfl ?_
        refine ev_goto (tgt := 33) dX11_bestScale_63 (by decide) ?_
        refine ev_fg4 ?_
        have q := ih (j + 1) (by omega) (by omega)
        rw [show j + 1 - 1 = j by omega, hs] at q
        exact q
      · have e52 : awr S j < awr S (bst (awr S) (j - 1)) := Nat.lt_of_not_le (fun q => hc52 (nI_le q (by omega)))
        rw [if_pos e52] at hs
        refine ev_iload_n dX11_bestScale_55 rfl ?_
        refine ev_ist1 dX11_bestScale_56 (by decide) rfl ?_
        refine ev_iload dX11_bestScale_57 rfl ?_
        refine ev_ist2 dX11_bestScale_59 (by decide) rfl ?_
        refine ev_iinc3 dX11_bestScale_60 (nI_inc _) (by decide) rfl ?_
        refine ev_goto (tgt := 33) dX11_bestScale_63 (by decide) ?_
        refine ev_fg4 ?_
        have q := ih (j + 1) (by omega) (by omega)
        rw [show j + 1 - 1 = j by omega, hs] at q
        exact q
  exact lp 8 2 rfl (Nat.le_refl _)
theorem qX11_bestScale {G : GX} {w : WS} {S : ST} (hS : cm_ S w)  : Big G 5 1 mX11_bestScale [.ref 0] w (cOut ["java/util/NoSuchElementException"] (qBs S)) w := by
  unfold qBs
  by_cases e : nR S = 0
  · rw [if_pos e]; exact qX11_bestScale_n hS e
  · rw [if_neg e]; exact qX11_bestScale_y hS e
set_option maxRecDepth 4000 in
theorem qX11_ranked {G : GX} {w : WS} {S : ST} (hS : cm_ S w) (x : Int32) : Big G 7 1 mX11_ranked [.ref 0, .int x] w (cOut ["java/util/NoSuchElementException"] (qRk S x)) w := by
  refine big_of (by decide +kernel) (Nat.le_of_ble_eq_true rfl) ?_
  have hS0 := hS
  obtain ⟨hO, hC, hR, hRv, hD, hDv, hM0, hM1, hM2, hM3, hM4⟩ := cm_cells hS
  obtain ⟨hch, hk1, hk2, hk3, hk4⟩ := hS
  have h5 := hk2.1
  have h6 := hk3.1
  show Ev G 7 1 mX11_ranked 0 [some (.ref 0), some (.int x), none] [] w _
  refine ev_iconst dX11_ranked_0 ic0 ?_
  refine ev_ist2 dX11_ranked_1 (by decide) rfl ?_
  have lp : ∀ (n9 j : Nat) , j + n9 = 4 → (∀ k, k < j → (nI (rk (fR S) (sC S) 4 k) == x) = false) → Ev G 7 1 mX11_ranked 2 [some (.ref 0), some (.int x), some (.int (nI j))] [] w (zu_ G (cOut ["java/util/NoSuchElementException"] (qRk S x)) w) := by
    intro n9
    induction n9 with
    | zero =>
      intro j  hi9 hb
      refine ev_iload_n dX11_ranked_2 rfl ?_
      refine ev_iconst dX11_ranked_3 ic4 ?_
      refine ev_icmp_ge_t (tgt := 24) dX11_ranked_4 (by decide) (nI_le (by omega) (by omega)) ?_
      have e0 : plc (fR S) (sC S) 4 x = none := find_none (fun k hk => hb k (by omega))
      rw [show cOut ["java/util/NoSuchElementException"] (qRk S x) = .inr "java/util/NoSuchElementException" by unfold qRk; rw [e0]; rfl]
      exact ev_throwN tX11_176_244_180 dX11_ranked_24 dX11_ranked_27 dX11_ranked_28 dX11_ranked_30 dX11_ranked_33 (by decide) rfl rfl
    | succ n9 ih =>
      intro j  hi9 hb
      refine ev_iload_n dX11_ranked_2 rfl ?_
      refine ev_iconst dX11_ranked_3 ic4 ?_
      refine ev_icmp_ge_f (tgt := 24) dX11_ranked_4 (by decide) (nI_ge (by omega) (by omega)) ?_
      refine ev_aload_n dX11_ranked_7 rfl ?_
      refine ev_iload_n dX11_ranked_8 rfl ?_
      refine ev_callV kX11_241 co0 (qX11_rankOfRealm hS0 (by omega)) dX11_ranked_9 rfl (by decide) (by decide) rfl ?_
      refine ev_iload_n dX11_ranked_12 rfl ?_
      refine ev_icmp_ne (tgt := 18) dX11_ranked_13 (by decide) (fun hc13 => ?_) (fun hc13 => ?_)
      · refine ev_iinc2 dX11_ranked_18 (nI_inc _) (by decide) rfl ?_
        refine ev_goto (tgt := 2) dX11_ranked_21 (by decide) ?_
        exact ih (j + 1) (by omega) (fun k hk => (Nat.lt_or_ge k j).elim (fun h => hb k h) (fun h => by obtain rfl : k = j := (by omega); exact beq_eq_false_iff_ne.mpr hc13))
      · have e0 : plc (fR S) (sC S) 4 x = some j := find_some (by omega) (beq_iff_eq.mpr hc13) hb
        refine ev_iload_n dX11_ranked_16 rfl ?_
        exact ev_iret dX11_ranked_17 rfl rfl (by unfold qRk; rw [e0]; rfl) rfl
  exact lp 4 0 (Nat.zero_add _) (fun k hk => absurd hk (Nat.not_lt_zero _))
set_option maxRecDepth 4000 in
theorem qX11_heaviest {G : GX} {w : WS} {S : ST} (hS : cm_ S w) (x : Int32) : Big G 7 1 mX11_heaviest [.ref 0, .int x] w (cOut ["java/util/NoSuchElementException"] (qHv S x)) w := by
  refine big_of (by decide +kernel) (Nat.le_of_ble_eq_true rfl) ?_
  have hS0 := hS
  obtain ⟨hO, hC, hR, hRv, hD, hDv, hM0, hM1, hM2, hM3, hM4⟩ := cm_cells hS
  obtain ⟨hch, hk1, hk2, hk3, hk4⟩ := hS
  have h5 := hk2.1
  have h6 := hk3.1
  show Ev G 7 1 mX11_heaviest 0 [some (.ref 0), some (.int x), none] [] w _
  refine ev_iconst dX11_heaviest_0 ic0 ?_
  refine ev_ist2 dX11_heaviest_1 (by decide) rfl ?_
  have lp : ∀ (n9 j : Nat) , j + n9 = (nR S) → (∀ k, k < j → (nI (rk (fV S) (gV S) (nR S) k) == x) = false) → Ev G 7 1 mX11_heaviest 2 [some (.ref 0), some (.int x), some (.int (nI j))] [] w (zu_ G (cOut ["java/util/NoSuchElementException"] (qHv S x)) w) := by
    intro n9
    induction n9 with
    | zero =>
      intro j  hi9 hb
      refine ev_iload_n dX11_heaviest_2 rfl ?_
      refine ev_aload_n dX11_heaviest_3 rfl ?_
      refine ev_getR fX11_10 dX11_heaviest_4 (by decide) sh0 rfl ?_
      refine ev_getI fX11_236 dX11_heaviest_7 (by decide) sh1 rfl ?_
      refine ev_top hR ?_
      refine ev_icmp_ge_t (tgt := 30) dX11_heaviest_10 (by decide) (nI_le (by omega) (by omega)) ?_
      have e0 : plc (fV S) (gV S) (nR S) x = none := find_none (fun k hk => hb k (by omega))
      rw [show cOut ["java/util/NoSuchElementException"] (qHv S x) = .inr "java/util/NoSuchElementException" by unfold qHv; rw [e0]; rfl]
      exact ev_throwN tX11_176_249_180 dX11_heaviest_30 dX11_heaviest_33 dX11_heaviest_34 dX11_heaviest_36 dX11_heaviest_39 (by decide) rfl rfl
    | succ n9 ih =>
      intro j  hi9 hb
      refine ev_iload_n dX11_heaviest_2 rfl ?_
      refine ev_aload_n dX11_heaviest_3 rfl ?_
      refine ev_getR fX11_10 dX11_heaviest_4 (by decide) sh0 rfl ?_
      refine ev_getI fX11_236 dX11_heaviest_7 (by decide) sh1 rfl ?_
      refine ev_top hR ?_
      refine ev_icmp_ge_f (tgt := 30) dX11_heaviest_10 (by decide) (nI_ge (by omega) (by omega)) ?_
      refine ev_aload_n dX11_heaviest_13 rfl ?_
      refine ev_iload_n dX11_heaviest_14 rfl ?_
      refine ev_callV kX11_246 co0 (qX11_rankOfRiver hS0 (by omega)) dX11_heaviest_15 rfl (by decide) (by decide) rfl ?_
      refine ev_iload_n dX11_heaviest_18 rfl ?_
      refine ev_icmp_ne (tgt := 24) dX11_heaviest_19 (by decide) (fun hc19 => ?_) (fun hc19 => ?_)
      · refine ev_iinc2 dX11_heaviest_24 (nI_inc _) (by decide) rfl ?_
        refine ev_goto (tgt := 2) dX11_heaviest_27 (by decide) ?_
        exact ih (j + 1) (by omega) (fun k hk => (Nat.lt_or_ge k j).elim (fun h => hb k h) (fun h => by obtain rfl : k = j := (by omega); exact beq_eq_false_iff_ne.mpr hc19))
      · have e0 : plc (fV S) (gV S) (nR S) x = some j := find_some (by omega) (beq_iff_eq.mpr hc19) hb
        refine ev_iload_n dX11_heaviest_22 rfl ?_
        exact ev_iret dX11_heaviest_23 rfl rfl (by unfold qHv; rw [e0]; rfl) rfl
  exact lp (nR S) 0 (Nat.zero_add _) (fun k hk => absurd hk (Nat.not_lt_zero _))
