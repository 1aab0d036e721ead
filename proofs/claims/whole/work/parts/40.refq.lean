/-! the reference's queries: each writes what it throws, and nothing else -/
def wT (w : WS) (k : Nat) : WS := cs_ w 115 (upd (w.1 115) 6 (nI k))
theorem mT {S : ST} {w : WS} {k : Nat} (h : mR S w) : mR S (wT w k) := mRe h rfl
set_option maxRecDepth 4000 in
theorem gX12_realmAt_n {G : GX} {w : WS} {S : ST} (hS : mR S w) {x : Int32} (hx : out_ 64 x) : Big G 3 0 mX12_realmAt [.ref 115, .int x] w (.inl (some (.int (nI 0)))) (wT w 1) := by
  refine big_of (by decide +kernel) (Nat.le_of_ble_eq_true rfl) ?_
  have hT := mT (k := 1) hS
  obtain ⟨⟨q0, q1, ⟨m0, m1, m2, m3, m4⟩, qr, qc, qv, qd⟩, hk1, hk2, hk3, hk4⟩ := hT
  have hT := mT (k := 1) hS
  have h4 := hk2.1
  have h5 := hk3.1
  have hS0 := hS
  show Ev G 3 0 mX12_realmAt 0 [some (.ref 115), some (.int x)] [] w _
  refine ev_aload_n dX12_realmAt_0 rfl ?_
  refine ev_iload_n dX12_realmAt_1 rfl ?_
  refine ev_callS kX12_78 (qX12_isCell_n hx) dX12_realmAt_2 rfl (by decide) (by decide) rfl ?_
  refine ev_if_eq_t (tgt := 12) dX12_realmAt_5 (by decide) rfl ?_
  refine ev_iconst dX12_realmAt_12 ic1 ?_
  refine ev_put fX12_43 dX12_realmAt_13 rfl rfl (by decide) sh115 rfl ?_
  refine ev_aload_n dX12_realmAt_16 rfl ?_
  refine ev_getI fX12_43 dX12_realmAt_17 (by decide) sh115 rfl ?_
  refine ev_top (y := nI 1) rfl ?_
  refine ev_if_le_f (tgt := 27) dX12_realmAt_20 (by decide) (by decide) ?_
  refine ev_iconst dX12_realmAt_23 ic0 ?_
  refine ev_goto (tgt := 32) dX12_realmAt_24 (by decide) ?_
  exact ev_iret dX12_realmAt_32 rfl rfl rfl rfl
set_option maxRecDepth 4000 in
theorem gX12_realmAt_y {G : GX} {w : WS} {S : ST} (hS : mR S w) {c : Nat} (hc : c < 64) : Big G 3 0 mX12_realmAt [.ref 115, .int (nI c)] w (.inl (some (.int (sO S c)))) (wT w 0) := by
  refine big_of (by decide +kernel) (Nat.le_of_ble_eq_true rfl) ?_
  have hT := mT (k := 0) hS
  obtain ⟨⟨q0, q1, ⟨m0, m1, m2, m3, m4⟩, qr, qc, qv, qd⟩, hk1, hk2, hk3, hk4⟩ := hT
  have hT := mT (k := 0) hS
  have h4 := hk2.1
  have h5 := hk3.1
  have hS0 := hS
  show Ev G 3 0 mX12_realmAt 0 [some (.ref 115), some (.int (nI c))] [] w _
  refine ev_aload_n dX12_realmAt_0 rfl ?_
  refine ev_iload_n dX12_realmAt_1 rfl ?_
  refine ev_callS kX12_78 (qX12_isCell_y hc) dX12_realmAt_2 rfl (by decide) (by decide) rfl ?_
  refine ev_if_eq_f (tgt := 12) dX12_realmAt_5 (by decide) (by decide) ?_
  refine ev_iconst dX12_realmAt_8 ic0 ?_
  refine ev_goto (tgt := 13) dX12_realmAt_9 (by decide) ?_
  refine ev_put fX12_43 dX12_realmAt_13 rfl rfl (by decide) sh115 rfl ?_
  refine ev_w (w' := wT w 0) rfl ?_
  refine ev_aload_n dX12_realmAt_16 rfl ?_
  refine ev_getI fX12_43 dX12_realmAt_17 (by decide) sh115 rfl ?_
  refine ev_top (y := nI 0) rfl ?_
  refine ev_if_le_t (tgt := 27) dX12_realmAt_20 (by decide) (by decide) ?_
  refine ev_aload_n dX12_realmAt_27 rfl ?_
  refine ev_iload_n dX12_realmAt_28 rfl ?_
  refine ev_callV kX12_67 co115 (qX12_at hT hc) dX12_realmAt_29 rfl (by decide) (by decide) rfl ?_
  exact ev_iret dX12_realmAt_32 rfl rfl rfl rfl
theorem gX12_realmAt {G : GX} {w : WS} {S : ST} (hS : mR S w) (x : Int32) : ∃ v, ((qAt S x).1 = 0 → v = (qAt S x).2) ∧ Big G 3 0 mX12_realmAt [.ref 115, .int x] w (.inl (some (.int v))) (wT w (qAt S x).1) := by
  unfold qAt
  rcases ixN_or 64 (by decide) x with ⟨h1, e1⟩ | ⟨r, h1, rfl, e1⟩
  · rw [e1]; exact ⟨_, fun q => (by simp at q), gX12_realmAt_n hS h1⟩
  · rw [e1]; exact ⟨_, fun _ => rfl, gX12_realmAt_y hS h1⟩
set_option maxRecDepth 4000 in
theorem gX12_realmOf_n {G : GX} {w : WS} {S : ST} (hS : mR S w) {x : Int32} (hx : out_ 4 x) (y : Int32) : Big G 5 0 mX12_realmOf [.ref 115, .int x, .int y] w (.inl (some (.int (nI 0)))) (wT w 1) := by
  refine big_of (by decide +kernel) (Nat.le_of_ble_eq_true rfl) ?_
  have hT := mT (k := 1) hS
  obtain ⟨⟨q0, q1, ⟨m0, m1, m2, m3, m4⟩, qr, qc, qv, qd⟩, hk1, hk2, hk3, hk4⟩ := hT
  have hT := mT (k := 1) hS
  have h4 := hk2.1
  have h5 := hk3.1
  have hS0 := hS
  show Ev G 5 0 mX12_realmOf 0 [some (.ref 115), some (.int x), some (.int y), none] [] w _
  refine ev_aload_n dX12_realmOf_0 rfl ?_
  refine ev_iload_n dX12_realmOf_1 rfl ?_
  refine ev_callS kX12_113 (qX12_isRealm_n hx) dX12_realmOf_2 rfl (by decide) (by decide) rfl ?_
  refine ev_if_ne_f (tgt := 12) dX12_realmOf_5 (by decide) rfl ?_
  refine ev_iconst dX12_realmOf_8 ic1 ?_
  refine ev_goto (tgt := 26) dX12_realmOf_9 (by decide) ?_
  refine ev_put fX12_43 dX12_realmOf_26 rfl rfl (by decide) sh115 rfl ?_
  refine ev_aload_n dX12_realmOf_29 rfl ?_
  refine ev_getI fX12_43 dX12_realmOf_30 (by decide) sh115 rfl ?_
  refine ev_top (y := nI 1) rfl ?_
  refine ev_if_le_f (tgt := 38) dX12_realmOf_33 (by decide) (by decide) ?_
  refine ev_iconst dX12_realmOf_36 ic0 ?_
  exact ev_iret dX12_realmOf_37 rfl rfl rfl rfl
set_option maxRecDepth 4000 in
theorem gX12_realmOf_m {G : GX} {w : WS} {S : ST} (hS : mR S w) {r : Nat} (hr : r < 4) {y : Int32} (hy : out_ 6 y) : Big G 5 0 mX12_realmOf [.ref 115, .int (nI r), .int y] w (.inl (some (.int (nI 0)))) (wT w 2) := by
  refine big_of (by decide +kernel) (Nat.le_of_ble_eq_true rfl) ?_
  have hT := mT (k := 2) hS
  obtain ⟨⟨q0, q1, ⟨m0, m1, m2, m3, m4⟩, qr, qc, qv, qd⟩, hk1, hk2, hk3, hk4⟩ := hT
  have hT := mT (k := 2) hS
  have h4 := hk2.1
  have h5 := hk3.1
  have hS0 := hS
  show Ev G 5 0 mX12_realmOf 0 [some (.ref 115), some (.int (nI r)), some (.int y), none] [] w _
  refine ev_aload_n dX12_realmOf_0 rfl ?_
  refine ev_iload_n dX12_realmOf_1 rfl ?_
  refine ev_callS kX12_113 (qX12_isRealm_y hr) dX12_realmOf_2 rfl (by decide) (by decide) rfl ?_
  refine ev_if_ne_t (tgt := 12) dX12_realmOf_5 (by decide) (by decide) ?_
  refine ev_iload_n dX12_realmOf_12 rfl ?_
  refine ev_iconst dX12_realmOf_13 ic0 ?_
  refine ev_iconst dX12_realmOf_14 ic5 ?_
  refine ev_callS kX12_63 (qX12_in_f (out_hi (by decide) hy)) dX12_realmOf_15 rfl (by decide) (by decide) rfl ?_
  refine ev_if_ne_f (tgt := 25) dX12_realmOf_18 (by decide) rfl ?_
  refine ev_iconst dX12_realmOf_21 ic2 ?_
  refine ev_goto (tgt := 26) dX12_realmOf_22 (by decide) ?_
  refine ev_put fX12_43 dX12_realmOf_26 rfl rfl (by decide) sh115 rfl ?_
  refine ev_aload_n dX12_realmOf_29 rfl ?_
  refine ev_getI fX12_43 dX12_realmOf_30 (by decide) sh115 rfl ?_
  refine ev_top (y := nI 2) rfl ?_
  refine ev_if_le_f (tgt := 38) dX12_realmOf_33 (by decide) (by decide) ?_
  refine ev_iconst dX12_realmOf_36 ic0 ?_
  exact ev_iret dX12_realmOf_37 rfl rfl rfl rfl
set_option maxRecDepth 4000 in
theorem gX12_realmOf_0 {G : GX} {w : WS} {S : ST} (hS : mR S w) {r : Nat} (hr : r < 4) : Big G 5 0 mX12_realmOf [.ref 115, .int (nI r), .int (nI 0)] w (.inl (some (.int (nI (cO S (nI r)))))) (wT w 0) := by
  refine big_of (by decide +kernel) (Nat.le_of_ble_eq_true rfl) ?_
  have hT := mT (k := 0) hS
  obtain ⟨⟨q0, q1, ⟨m0, m1, m2, m3, m4⟩, qr, qc, qv, qd⟩, hk1, hk2, hk3, hk4⟩ := hT
  have hT := mT (k := 0) hS
  have h4 := hk2.1
  have h5 := hk3.1
  have hS0 := hS
  show Ev G 5 0 mX12_realmOf 0 [some (.ref 115), some (.int (nI r)), some (.int (nI 0)), none] [] w _
  refine ev_aload_n dX12_realmOf_0 rfl ?_
  refine ev_iload_n dX12_realmOf_1 rfl ?_
  refine ev_callS kX12_113 (qX12_isRealm_y hr) dX12_realmOf_2 rfl (by decide) (by decide) rfl ?_
  refine ev_if_ne_t (tgt := 12) dX12_realmOf_5 (by decide) (by decide) ?_
  refine ev_iload_n dX12_realmOf_12 rfl ?_
  refine ev_iconst dX12_realmOf_13 ic0 ?_
  refine ev_iconst dX12_realmOf_14 ic5 ?_
  refine ev_callS kX12_63 (qX12_in_t (by decide) (by decide)) dX12_realmOf_15 rfl (by decide) (by decide) rfl ?_
  refine ev_if_ne_t (tgt := 25) dX12_realmOf_18 (by decide) (by decide) ?_
  refine ev_iconst dX12_realmOf_25 ic0 ?_
  refine ev_put fX12_43 dX12_realmOf_26 rfl rfl (by decide) sh115 rfl ?_
  refine ev_w (w' := wT w 0) rfl ?_
  refine ev_aload_n dX12_realmOf_29 rfl ?_
  refine ev_getI fX12_43 dX12_realmOf_30 (by decide) sh115 rfl ?_
  refine ev_top (y := nI 0) rfl ?_
  refine ev_if_le_t (tgt := 38) dX12_realmOf_33 (by decide) (by decide) ?_
  refine ev_bipush (v := nI 7) dX12_realmOf_38 (by decide) ?_
  refine ev_iconst dX12_realmOf_40 ic3 ?_
  refine ev_iload_n dX12_realmOf_41 rfl ?_
  refine ev_imul dX12_realmOf_42 ?_
  first | refine ev_top (pk_mul _ _) ?_ | skip
  refine ev_iadd dX12_realmOf_43 ?_
  first | refine ev_top (nI_add _ _) ?_ | skip
  refine ev_ist3 dX12_realmOf_44 (by decide) rfl ?_
  refine ev_iload_n dX12_realmOf_45 rfl ?_
  refine ev_tableIn (tgt := 84) (off := 38) dX12_realmOf_46 (by decide) (by decide) (by decide +kernel) (by decide) ?_
  refine ev_aload_n dX12_realmOf_84 rfl ?_
  refine ev_iload_n dX12_realmOf_85 rfl ?_
  refine ev_callV kX12_110 co115 (qX12_cellsOf hT) dX12_realmOf_86 rfl (by decide) (by decide) rfl ?_
  exact ev_iret dX12_realmOf_89 rfl rfl rfl rfl
set_option maxRecDepth 4000 in
theorem gX12_realmOf_1 {G : GX} {w : WS} {S : ST} (hS : mR S w) {r : Nat} (hr : r < 4) : Big G 5 0 mX12_realmOf [.ref 115, .int (nI r), .int (nI 1)] w (.inl (some (.int (sC S r)))) (wT w 0) := by
  refine big_of (by decide +kernel) (Nat.le_of_ble_eq_true rfl) ?_
  have hT := mT (k := 0) hS
  obtain ⟨⟨q0, q1, ⟨m0, m1, m2, m3, m4⟩, qr, qc, qv, qd⟩, hk1, hk2, hk3, hk4⟩ := hT
  have hT := mT (k := 0) hS
  have h4 := hk2.1
  have h5 := hk3.1
  have hS0 := hS
  show Ev G 5 0 mX12_realmOf 0 [some (.ref 115), some (.int (nI r)), some (.int (nI 1)), none] [] w _
  refine ev_aload_n dX12_realmOf_0 rfl ?_
  refine ev_iload_n dX12_realmOf_1 rfl ?_
  refine ev_callS kX12_113 (qX12_isRealm_y hr) dX12_realmOf_2 rfl (by decide) (by decide) rfl ?_
  refine ev_if_ne_t (tgt := 12) dX12_realmOf_5 (by decide) (by decide) ?_
  refine ev_iload_n dX12_realmOf_12 rfl ?_
  refine ev_iconst dX12_realmOf_13 ic0 ?_
  refine ev_iconst dX12_realmOf_14 ic5 ?_
  refine ev_callS kX12_63 (qX12_in_t (by decide) (by decide)) dX12_realmOf_15 rfl (by decide) (by decide) rfl ?_
  refine ev_if_ne_t (tgt := 25) dX12_realmOf_18 (by decide) (by decide) ?_
  refine ev_iconst dX12_realmOf_25 ic0 ?_
  refine ev_put fX12_43 dX12_realmOf_26 rfl rfl (by decide) sh115 rfl ?_
  refine ev_w (w' := wT w 0) rfl ?_
  refine ev_aload_n dX12_realmOf_29 rfl ?_
  refine ev_getI fX12_43 dX12_realmOf_30 (by decide) sh115 rfl ?_
  refine ev_top (y := nI 0) rfl ?_
  refine ev_if_le_t (tgt := 38) dX12_realmOf_33 (by decide) (by decide) ?_
  refine ev_bipush (v := nI 7) dX12_realmOf_38 (by decide) ?_
  refine ev_iconst dX12_realmOf_40 ic3 ?_
  refine ev_iload_n dX12_realmOf_41 rfl ?_
  refine ev_imul dX12_realmOf_42 ?_
  first | refine ev_top (pk_mul _ _) ?_ | skip
  refine ev_iadd dX12_realmOf_43 ?_
  first | refine ev_top (nI_add _ _) ?_ | skip
  refine ev_ist3 dX12_realmOf_44 (by decide) rfl ?_
  refine ev_iload_n dX12_realmOf_45 rfl ?_
  refine ev_tableIn (tgt := 90) (off := 44) dX12_realmOf_46 (by decide) (by decide) (by decide +kernel) (by decide) ?_
  refine ev_aload_n dX12_realmOf_90 rfl ?_
  refine ev_getR fX12_9 dX12_realmOf_91 (by decide) sh115 rfl ?_
  refine ev_iload_n dX12_realmOf_94 rfl ?_
  refine ev_iaload dX12_realmOf_95 rfl (by omega) (by decide) sh116 ?_
  refine ev_top (qr r hr).1 ?_
  exact ev_iret dX12_realmOf_96 rfl rfl rfl rfl
set_option maxRecDepth 4000 in
theorem gX12_realmOf_2 {G : GX} {w : WS} {S : ST} (hS : mR S w) {r : Nat} (hr : r < 4) : Big G 5 0 mX12_realmOf [.ref 115, .int (nI r), .int (nI 2)] w (.inl (some (.int (nI (dOf S (nI r)))))) (wT w 0) := by
  refine big_of (by decide +kernel) (Nat.le_of_ble_eq_true rfl) ?_
  have hT := mT (k := 0) hS
  obtain ⟨⟨q0, q1, ⟨m0, m1, m2, m3, m4⟩, qr, qc, qv, qd⟩, hk1, hk2, hk3, hk4⟩ := hT
  have hT := mT (k := 0) hS
  have h4 := hk2.1
  have h5 := hk3.1
  have hS0 := hS
  show Ev G 5 0 mX12_realmOf 0 [some (.ref 115), some (.int (nI r)), some (.int (nI 2)), none] [] w _
  refine ev_aload_n dX12_realmOf_0 rfl ?_
  refine ev_iload_n dX12_realmOf_1 rfl ?_
  refine ev_callS kX12_113 (qX12_isRealm_y hr) dX12_realmOf_2 rfl (by decide) (by decide) rfl ?_
  refine ev_if_ne_t (tgt := 12) dX12_realmOf_5 (by decide) (by decide) ?_
  refine ev_iload_n dX12_realmOf_12 rfl ?_
  refine ev_iconst dX12_realmOf_13 ic0 ?_
  refine ev_iconst dX12_realmOf_14 ic5 ?_
  refine ev_callS kX12_63 (qX12_in_t (by decide) (by decide)) dX12_realmOf_15 rfl (by decide) (by decide) rfl ?_
  refine ev_if_ne_t (tgt := 25) dX12_realmOf_18 (by decide) (by decide) ?_
  refine ev_iconst dX12_realmOf_25 ic0 ?_
  refine ev_put fX12_43 dX12_realmOf_26 rfl rfl (by decide) sh115 rfl ?_
  refine ev_w (w' := wT w 0) rfl ?_
  refine ev_aload_n dX12_realmOf_29 rfl ?_
  refine ev_getI fX12_43 dX12_realmOf_30 (by decide) sh115 rfl ?_
  refine ev_top (y := nI 0) rfl ?_
  refine ev_if_le_t (tgt := 38) dX12_realmOf_33 (by decide) (by decide) ?_
  refine ev_bipush (v := nI 7) dX12_realmOf_38 (by decide) ?_
  refine ev_iconst dX12_realmOf_40 ic3 ?_
  refine ev_iload_n dX12_realmOf_41 rfl ?_
  refine ev_imul dX12_realmOf_42 ?_
  first | refine ev_top (pk_mul _ _) ?_ | skip
  refine ev_iadd dX12_realmOf_43 ?_
  first | refine ev_top (nI_add _ _) ?_ | skip
  refine ev_ist3 dX12_realmOf_44 (by decide) rfl ?_
  refine ev_iload_n dX12_realmOf_45 rfl ?_
  refine ev_tableIn (tgt := 97) (off := 51) dX12_realmOf_46 (by decide) (by decide) (by decide +kernel) (by decide) ?_
  refine ev_aload_n dX12_realmOf_97 rfl ?_
  refine ev_iload_n dX12_realmOf_98 rfl ?_
  refine ev_callV kX12_162 co115 (qX12_dragonsOf hT) dX12_realmOf_99 rfl (by decide) (by decide) rfl ?_
  exact ev_iret dX12_realmOf_102 rfl rfl rfl rfl
set_option maxRecDepth 4000 in
theorem gX12_realmOf_3 {G : GX} {w : WS} {S : ST} (hS : mR S w) {r : Nat} (hr : r < 4) : Big G 5 0 mX12_realmOf [.ref 115, .int (nI r), .int (nI 3)] w (.inl (some (.int (sW S r)))) (wT w 0) := by
  refine big_of (by decide +kernel) (Nat.le_of_ble_eq_true rfl) ?_
  have hT := mT (k := 0) hS
  obtain ⟨⟨q0, q1, ⟨m0, m1, m2, m3, m4⟩, qr, qc, qv, qd⟩, hk1, hk2, hk3, hk4⟩ := hT
  have hT := mT (k := 0) hS
  have h4 := hk2.1
  have h5 := hk3.1
  have hS0 := hS
  show Ev G 5 0 mX12_realmOf 0 [some (.ref 115), some (.int (nI r)), some (.int (nI 3)), none] [] w _
  refine ev_aload_n dX12_realmOf_0 rfl ?_
  refine ev_iload_n dX12_realmOf_1 rfl ?_
  refine ev_callS kX12_113 (qX12_isRealm_y hr) dX12_realmOf_2 rfl (by decide) (by decide) rfl ?_
  refine ev_if_ne_t (tgt := 12) dX12_realmOf_5 (by decide) (by decide) ?_
  refine ev_iload_n dX12_realmOf_12 rfl ?_
  refine ev_iconst dX12_realmOf_13 ic0 ?_
  refine ev_iconst dX12_realmOf_14 ic5 ?_
  refine ev_callS kX12_63 (qX12_in_t (by decide) (by decide)) dX12_realmOf_15 rfl (by decide) (by decide) rfl ?_
  refine ev_if_ne_t (tgt := 25) dX12_realmOf_18 (by decide) (by decide) ?_
  refine ev_iconst dX12_realmOf_25 ic0 ?_
  refine ev_put fX12_43 dX12_realmOf_26 rfl rfl (by decide) sh115 rfl ?_
  refine ev_w (w' := wT w 0) rfl ?_
  refine ev_aload_n dX12_realmOf_29 rfl ?_
  refine ev_getI fX12_43 dX12_realmOf_30 (by decide) sh115 rfl ?_
  refine ev_top (y := nI 0) rfl ?_
  refine ev_if_le_t (tgt := 38) dX12_realmOf_33 (by decide) (by decide) ?_
  refine ev_bipush (v := nI 7) dX12_realmOf_38 (by decide) ?_
  refine ev_iconst dX12_realmOf_40 ic3 ?_
  refine ev_iload_n dX12_realmOf_41 rfl ?_
  refine ev_imul dX12_realmOf_42 ?_
  first | refine ev_top (pk_mul _ _) ?_ | skip
  refine ev_iadd dX12_realmOf_43 ?_
  first | refine ev_top (nI_add _ _) ?_ | skip
  refine ev_ist3 dX12_realmOf_44 (by decide) rfl ?_
  refine ev_iload_n dX12_realmOf_45 rfl ?_
  refine ev_tableIn (tgt := 109) (off := 63) dX12_realmOf_46 (by decide) (by decide) (by decide +kernel) (by decide) ?_
  refine ev_aload_n dX12_realmOf_109 rfl ?_
  refine ev_getR fX12_9 dX12_realmOf_110 (by decide) sh115 rfl ?_
  refine ev_iload_n dX12_realmOf_113 rfl ?_
  refine ev_iload_n dX12_realmOf_114 rfl ?_
  refine ev_iadd dX12_realmOf_115 ?_
  first | refine ev_top (nI_add _ _) ?_ | skip
  refine ev_iconst dX12_realmOf_116 ic2 ?_
  refine ev_isub dX12_realmOf_117 ?_
  refine ev_top (y := nI (7 + 3 * r + 1)) (by first | exact pk_sub (by omega) | exact (pk_sub (by omega)).trans (by congr 1)) ?_
  refine ev_iaload dX12_realmOf_118 rfl (by omega) (by decide) sh116 ?_
  refine ev_top (qr r hr).2.1 ?_
  exact ev_iret dX12_realmOf_119 rfl rfl rfl rfl
set_option maxRecDepth 4000 in
theorem gX12_realmOf_4 {G : GX} {w : WS} {S : ST} (hS : mR S w) {r : Nat} (hr : r < 4) : Big G 5 0 mX12_realmOf [.ref 115, .int (nI r), .int (nI 4)] w (.inl (some (.int (sL S r)))) (wT w 0) := by
  refine big_of (by decide +kernel) (Nat.le_of_ble_eq_true rfl) ?_
  have hT := mT (k := 0) hS
  obtain ⟨⟨q0, q1, ⟨m0, m1, m2, m3, m4⟩, qr, qc, qv, qd⟩, hk1, hk2, hk3, hk4⟩ := hT
  have hT := mT (k := 0) hS
  have h4 := hk2.1
  have h5 := hk3.1
  have hS0 := hS
  show Ev G 5 0 mX12_realmOf 0 [some (.ref 115), some (.int (nI r)), some (.int (nI 4)), none] [] w _
  refine ev_aload_n dX12_realmOf_0 rfl ?_
  refine ev_iload_n dX12_realmOf_1 rfl ?_
  refine ev_callS kX12_113 (qX12_isRealm_y hr) dX12_realmOf_2 rfl (by decide) (by decide) rfl ?_
  refine ev_if_ne_t (tgt := 12) dX12_realmOf_5 (by decide) (by decide) ?_
  refine ev_iload_n dX12_realmOf_12 rfl ?_
  refine ev_iconst dX12_realmOf_13 ic0 ?_
  refine ev_iconst dX12_realmOf_14 ic5 ?_
  refine ev_callS kX12_63 (qX12_in_t (by decide) (by decide)) dX12_realmOf_15 rfl (by decide) (by decide) rfl ?_
  refine ev_if_ne_t (tgt := 25) dX12_realmOf_18 (by decide) (by decide) ?_
  refine ev_iconst dX12_realmOf_25 ic0 ?_
  refine ev_put fX12_43 dX12_realmOf_26 rfl rfl (by decide) sh115 rfl ?_
  refine ev_w (w' := wT w 0) rfl ?_
  refine ev_aload_n dX12_realmOf_29 rfl ?_
  refine ev_getI fX12_43 dX12_realmOf_30 (by decide) sh115 rfl ?_
  refine ev_top (y := nI 0) rfl ?_
  refine ev_if_le_t (tgt := 38) dX12_realmOf_33 (by decide) (by decide) ?_
  refine ev_bipush (v := nI 7) dX12_realmOf_38 (by decide) ?_
  refine ev_iconst dX12_realmOf_40 ic3 ?_
  refine ev_iload_n dX12_realmOf_41 rfl ?_
  refine ev_imul dX12_realmOf_42 ?_
  first | refine ev_top (pk_mul _ _) ?_ | skip
  refine ev_iadd dX12_realmOf_43 ?_
  first | refine ev_top (nI_add _ _) ?_ | skip
  refine ev_ist3 dX12_realmOf_44 (by decide) rfl ?_
  refine ev_iload_n dX12_realmOf_45 rfl ?_
  refine ev_tableIn (tgt := 109) (off := 63) dX12_realmOf_46 (by decide) (by decide) (by decide +kernel) (by decide) ?_
  refine ev_aload_n dX12_realmOf_109 rfl ?_
  refine ev_getR fX12_9 dX12_realmOf_110 (by decide) sh115 rfl ?_
  refine ev_iload_n dX12_realmOf_113 rfl ?_
  refine ev_iload_n dX12_realmOf_114 rfl ?_
  refine ev_iadd dX12_realmOf_115 ?_
  first | refine ev_top (nI_add _ _) ?_ | skip
  refine ev_iconst dX12_realmOf_116 ic2 ?_
  refine ev_isub dX12_realmOf_117 ?_
  refine ev_top (y := nI (7 + 3 * r + 2)) (by first | exact pk_sub (by omega) | exact (pk_sub (by omega)).trans (by congr 1)) ?_
  refine ev_iaload dX12_realmOf_118 rfl (by omega) (by decide) sh116 ?_
  refine ev_top (qr r hr).2.2 ?_
  exact ev_iret dX12_realmOf_119 rfl rfl rfl rfl
set_option maxRecDepth 4000 in
theorem gX12_realmOf_5 {G : GX} {w : WS} {S : ST} (hS : mR S w) {r : Nat} (hr : r < 4) : Big G 5 0 mX12_realmOf [.ref 115, .int (nI r), .int (nI 5)] w (.inl (some (.int (nI (thr S (nI r)))))) (wT w 0) := by
  refine big_of (by decide +kernel) (Nat.le_of_ble_eq_true rfl) ?_
  have hT := mT (k := 0) hS
  obtain ⟨⟨q0, q1, ⟨m0, m1, m2, m3, m4⟩, qr, qc, qv, qd⟩, hk1, hk2, hk3, hk4⟩ := hT
  have hT := mT (k := 0) hS
  have h4 := hk2.1
  have h5 := hk3.1
  have hS0 := hS
  show Ev G 5 0 mX12_realmOf 0 [some (.ref 115), some (.int (nI r)), some (.int (nI 5)), none] [] w _
  refine ev_aload_n dX12_realmOf_0 rfl ?_
  refine ev_iload_n dX12_realmOf_1 rfl ?_
  refine ev_callS kX12_113 (qX12_isRealm_y hr) dX12_realmOf_2 rfl (by decide) (by decide) rfl ?_
  refine ev_if_ne_t (tgt := 12) dX12_realmOf_5 (by decide) (by decide) ?_
  refine ev_iload_n dX12_realmOf_12 rfl ?_
  refine ev_iconst dX12_realmOf_13 ic0 ?_
  refine ev_iconst dX12_realmOf_14 ic5 ?_
  refine ev_callS kX12_63 (qX12_in_t (by decide) (by decide)) dX12_realmOf_15 rfl (by decide) (by decide) rfl ?_
  refine ev_if_ne_t (tgt := 25) dX12_realmOf_18 (by decide) (by decide) ?_
  refine ev_iconst dX12_realmOf_25 ic0 ?_
  refine ev_put fX12_43 dX12_realmOf_26 rfl rfl (by decide) sh115 rfl ?_
  refine ev_w (w' := wT w 0) rfl ?_
  refine ev_aload_n dX12_realmOf_29 rfl ?_
  refine ev_getI fX12_43 dX12_realmOf_30 (by decide) sh115 rfl ?_
  refine ev_top (y := nI 0) rfl ?_
  refine ev_if_le_t (tgt := 38) dX12_realmOf_33 (by decide) (by decide) ?_
  refine ev_bipush (v := nI 7) dX12_realmOf_38 (by decide) ?_
  refine ev_iconst dX12_realmOf_40 ic3 ?_
  refine ev_iload_n dX12_realmOf_41 rfl ?_
  refine ev_imul dX12_realmOf_42 ?_
  first | refine ev_top (pk_mul _ _) ?_ | skip
  refine ev_iadd dX12_realmOf_43 ?_
  first | refine ev_top (nI_add _ _) ?_ | skip
  refine ev_ist3 dX12_realmOf_44 (by decide) rfl ?_
  refine ev_iload_n dX12_realmOf_45 rfl ?_
  refine ev_tableIn (tgt := 103) (off := 57) dX12_realmOf_46 (by decide) (by decide) (by decide +kernel) (by decide) ?_
  refine ev_aload_n dX12_realmOf_103 rfl ?_
  refine ev_iload_n dX12_realmOf_104 rfl ?_
  refine ev_callV kX12_165 co115 (qX12_riverMany hT) dX12_realmOf_105 rfl (by decide) (by decide) rfl ?_
  exact ev_iret dX12_realmOf_108 rfl rfl rfl rfl
theorem gX12_realmOf {G : GX} {w : WS} {S : ST} (hS : mR S w) (x y : Int32) : ∃ v, ((qRo S x y).1 = 0 → v = (qRo S x y).2) ∧ Big G 5 0 mX12_realmOf [.ref 115, .int x, .int y] w (.inl (some (.int v))) (wT w (qRo S x y).1) := by
  unfold qRo
  rcases ixN_or 4 (by decide) x with ⟨h1, e1⟩ | ⟨r, h1, rfl, e1⟩
  · rw [e1]; exact ⟨_, fun q => (by simp at q), gX12_realmOf_n hS h1 y⟩
  · rw [e1]
    dsimp only
    rcases ixN_or 6 (by decide) y with ⟨h2, e2⟩ | ⟨k, h2, rfl, e2⟩
    · rw [e2]; exact ⟨_, fun q => (by simp at q), gX12_realmOf_m hS h1 h2⟩
    · rw [e2]
      obtain rfl | rfl | rfl | rfl | rfl | rfl : k = 0 ∨ k = 1 ∨ k = 2 ∨ k = 3 ∨ k = 4 ∨ k = 5 := by omega
      · exact ⟨_, fun _ => rfl, gX12_realmOf_0 hS h1⟩
      · exact ⟨_, fun _ => rfl, gX12_realmOf_1 hS h1⟩
      · exact ⟨_, fun _ => rfl, gX12_realmOf_2 hS h1⟩
      · exact ⟨_, fun _ => rfl, gX12_realmOf_3 hS h1⟩
      · exact ⟨_, fun _ => rfl, gX12_realmOf_4 hS h1⟩
      · exact ⟨_, fun _ => rfl, gX12_realmOf_5 hS h1⟩
set_option maxRecDepth 4000 in
theorem gX12_riverOf_n {G : GX} {w : WS} {S : ST} (hS : mR S w) {x : Int32} (hx : out_ (nR S) x) (y : Int32) : Big G 5 0 mX12_riverOf [.ref 115, .int x, .int y] w (.inl (some (.int (nI 0)))) (wT w 1) := by
  refine big_of (by decide +kernel) (Nat.le_of_ble_eq_true rfl) ?_
  have hT := mT (k := 1) hS
  obtain ⟨⟨q0, q1, ⟨m0, m1, m2, m3, m4⟩, qr, qc, qv, qd⟩, hk1, hk2, hk3, hk4⟩ := hT
  have hT := mT (k := 1) hS
  have h4 := hk2.1
  have h5 := hk3.1
  have hS0 := hS
  show Ev G 5 0 mX12_riverOf 0 [some (.ref 115), some (.int x), some (.int y)] [] w _
  refine ev_aload_n dX12_riverOf_0 rfl ?_
  refine ev_aload_n dX12_riverOf_1 rfl ?_
  refine ev_iload_n dX12_riverOf_2 rfl ?_
  refine ev_callV kX12_141 co115 (qX12_isRiver_n hS0 hx) dX12_riverOf_3 rfl (by decide) (by decide) rfl ?_
  refine ev_if_ne_f (tgt := 13) dX12_riverOf_6 (by decide) rfl ?_
  refine ev_iconst dX12_riverOf_9 ic1 ?_
  refine ev_goto (tgt := 27) dX12_riverOf_10 (by decide) ?_
  refine ev_put fX12_43 dX12_riverOf_27 rfl rfl (by decide) sh115 rfl ?_
  refine ev_aload_n dX12_riverOf_30 rfl ?_
  refine ev_getI fX12_43 dX12_riverOf_31 (by decide) sh115 rfl ?_
  refine ev_top (y := nI 1) rfl ?_
  refine ev_if_le_f (tgt := 39) dX12_riverOf_34 (by decide) (by decide) ?_
  refine ev_iconst dX12_riverOf_37 ic0 ?_
  exact ev_iret dX12_riverOf_38 rfl rfl rfl rfl
set_option maxRecDepth 4000 in
theorem gX12_riverOf_m {G : GX} {w : WS} {S : ST} (hS : mR S w) {r : Nat} (hr : r < nR S) {y : Int32} (hy : out_ 6 y) : Big G 5 0 mX12_riverOf [.ref 115, .int (nI r), .int y] w (.inl (some (.int (nI 0)))) (wT w 2) := by
  refine big_of (by decide +kernel) (Nat.le_of_ble_eq_true rfl) ?_
  have hT := mT (k := 2) hS
  obtain ⟨⟨q0, q1, ⟨m0, m1, m2, m3, m4⟩, qr, qc, qv, qd⟩, hk1, hk2, hk3, hk4⟩ := hT
  have hT := mT (k := 2) hS
  have h4 := hk2.1
  have h5 := hk3.1
  have hS0 := hS
  show Ev G 5 0 mX12_riverOf 0 [some (.ref 115), some (.int (nI r)), some (.int y)] [] w _
  refine ev_aload_n dX12_riverOf_0 rfl ?_
  refine ev_aload_n dX12_riverOf_1 rfl ?_
  refine ev_iload_n dX12_riverOf_2 rfl ?_
  refine ev_callV kX12_141 co115 (qX12_isRiver_y hS0 hr) dX12_riverOf_3 rfl (by decide) (by decide) rfl ?_
  refine ev_if_ne_t (tgt := 13) dX12_riverOf_6 (by decide) (by decide) ?_
  refine ev_iload_n dX12_riverOf_13 rfl ?_
  refine ev_iconst dX12_riverOf_14 ic0 ?_
  refine ev_iconst dX12_riverOf_15 ic5 ?_
  refine ev_callS kX12_63 (qX12_in_f (out_hi (by decide) hy)) dX12_riverOf_16 rfl (by decide) (by decide) rfl ?_
  refine ev_if_ne_f (tgt := 26) dX12_riverOf_19 (by decide) rfl ?_
  refine ev_iconst dX12_riverOf_22 ic2 ?_
  refine ev_goto (tgt := 27) dX12_riverOf_23 (by decide) ?_
  refine ev_put fX12_43 dX12_riverOf_27 rfl rfl (by decide) sh115 rfl ?_
  refine ev_aload_n dX12_riverOf_30 rfl ?_
  refine ev_getI fX12_43 dX12_riverOf_31 (by decide) sh115 rfl ?_
  refine ev_top (y := nI 2) rfl ?_
  refine ev_if_le_f (tgt := 39) dX12_riverOf_34 (by decide) (by decide) ?_
  refine ev_iconst dX12_riverOf_37 ic0 ?_
  exact ev_iret dX12_riverOf_38 rfl rfl rfl rfl
set_option maxRecDepth 4000 in
theorem gX12_riverOf_0 {G : GX} {w : WS} {S : ST} (hS : mR S w) {r : Nat} (hr : r < nR S) : Big G 5 0 mX12_riverOf [.ref 115, .int (nI r), .int (nI 0)] w (.inl (some (.int (nI (rP S r 0))))) (wT w 0) := by
  refine big_of (by decide +kernel) (Nat.le_of_ble_eq_true rfl) ?_
  have hT := mT (k := 0) hS
  obtain ⟨⟨q0, q1, ⟨m0, m1, m2, m3, m4⟩, qr, qc, qv, qd⟩, hk1, hk2, hk3, hk4⟩ := hT
  have hT := mT (k := 0) hS
  have h4 := hk2.1
  have h5 := hk3.1
  have hS0 := hS
  show Ev G 5 0 mX12_riverOf 0 [some (.ref 115), some (.int (nI r)), some (.int (nI 0))] [] w _
  refine ev_aload_n dX12_riverOf_0 rfl ?_
  refine ev_aload_n dX12_riverOf_1 rfl ?_
  refine ev_iload_n dX12_riverOf_2 rfl ?_
  refine ev_callV kX12_141 co115 (qX12_isRiver_y hS0 hr) dX12_riverOf_3 rfl (by decide) (by decide) rfl ?_
  refine ev_if_ne_t (tgt := 13) dX12_riverOf_6 (by decide) (by decide) ?_
  refine ev_iload_n dX12_riverOf_13 rfl ?_
  refine ev_iconst dX12_riverOf_14 ic0 ?_
  refine ev_iconst dX12_riverOf_15 ic5 ?_
  refine ev_callS kX12_63 (qX12_in_t (by decide) (by decide)) dX12_riverOf_16 rfl (by decide) (by decide) rfl ?_
  refine ev_if_ne_t (tgt := 26) dX12_riverOf_19 (by decide) (by decide) ?_
  refine ev_iconst dX12_riverOf_26 ic0 ?_
  refine ev_put fX12_43 dX12_riverOf_27 rfl rfl (by decide) sh115 rfl ?_
  refine ev_w (w' := wT w 0) rfl ?_
  refine ev_aload_n dX12_riverOf_30 rfl ?_
  refine ev_getI fX12_43 dX12_riverOf_31 (by decide) sh115 rfl ?_
  refine ev_top (y := nI 0) rfl ?_
  refine ev_if_le_t (tgt := 39) dX12_riverOf_34 (by decide) (by decide) ?_
  refine ev_iload_n dX12_riverOf_39 rfl ?_
  refine ev_tableIn (tgt := 76) (off := 36) dX12_riverOf_40 (by decide) (by decide) (by decide +kernel) (by decide) ?_
  refine ev_aload_n dX12_riverOf_76 rfl ?_
  refine ev_iload_n dX12_riverOf_77 rfl ?_
  refine ev_iconst dX12_riverOf_78 ic0 ?_
  refine ev_callV kX12_159 co115 (qX12_cellOf hT hr (Nat.zero_le _)) dX12_riverOf_79 rfl (by decide) (by decide) rfl ?_
  exact ev_iret dX12_riverOf_82 rfl rfl rfl rfl
set_option maxRecDepth 4000 in
theorem gX12_riverOf_1 {G : GX} {w : WS} {S : ST} (hS : mR S w) {r : Nat} (hr : r < nR S) : Big G 5 0 mX12_riverOf [.ref 115, .int (nI r), .int (nI 1)] w (.inl (some (.int (nI (rN S r))))) (wT w 0) := by
  refine big_of (by decide +kernel) (Nat.le_of_ble_eq_true rfl) ?_
  have hT := mT (k := 0) hS
  obtain ⟨⟨q0, q1, ⟨m0, m1, m2, m3, m4⟩, qr, qc, qv, qd⟩, hk1, hk2, hk3, hk4⟩ := hT
  have hT := mT (k := 0) hS
  have h4 := hk2.1
  have h5 := hk3.1
  have hS0 := hS
  show Ev G 5 0 mX12_riverOf 0 [some (.ref 115), some (.int (nI r)), some (.int (nI 1))] [] w _
  refine ev_aload_n dX12_riverOf_0 rfl ?_
  refine ev_aload_n dX12_riverOf_1 rfl ?_
  refine ev_iload_n dX12_riverOf_2 rfl ?_
  refine ev_callV kX12_141 co115 (qX12_isRiver_y hS0 hr) dX12_riverOf_3 rfl (by decide) (by decide) rfl ?_
  refine ev_if_ne_t (tgt := 13) dX12_riverOf_6 (by decide) (by decide) ?_
  refine ev_iload_n dX12_riverOf_13 rfl ?_
  refine ev_iconst dX12_riverOf_14 ic0 ?_
  refine ev_iconst dX12_riverOf_15 ic5 ?_
  refine ev_callS kX12_63 (qX12_in_t (by decide) (by decide)) dX12_riverOf_16 rfl (by decide) (by decide) rfl ?_
  refine ev_if_ne_t (tgt := 26) dX12_riverOf_19 (by decide) (by decide) ?_
  refine ev_iconst dX12_riverOf_26 ic0 ?_
  refine ev_put fX12_43 dX12_riverOf_27 rfl rfl (by decide) sh115 rfl ?_
  refine ev_w (w' := wT w 0) rfl ?_
  refine ev_aload_n dX12_riverOf_30 rfl ?_
  refine ev_getI fX12_43 dX12_riverOf_31 (by decide) sh115 rfl ?_
  refine ev_top (y := nI 0) rfl ?_
  refine ev_if_le_t (tgt := 39) dX12_riverOf_34 (by decide) (by decide) ?_
  refine ev_iload_n dX12_riverOf_39 rfl ?_
  refine ev_tableIn (tgt := 83) (off := 43) dX12_riverOf_40 (by decide) (by decide) (by decide +kernel) (by decide) ?_
  refine ev_aload_n dX12_riverOf_83 rfl ?_
  refine ev_iload_n dX12_riverOf_84 rfl ?_
  refine ev_callV kX12_156 co115 (qX12_steps hT hr) dX12_riverOf_85 rfl (by decide) (by decide) rfl ?_
  exact ev_iret dX12_riverOf_88 rfl rfl rfl rfl
set_option maxRecDepth 4000 in
theorem gX12_riverOf_2 {G : GX} {w : WS} {S : ST} (hS : mR S w) {r : Nat} (hr : r < nR S) : Big G 5 0 mX12_riverOf [.ref 115, .int (nI r), .int (nI 2)] w (.inl (some (.int (nI (rP S r (rN S r)))))) (wT w 0) := by
  refine big_of (by decide +kernel) (Nat.le_of_ble_eq_true rfl) ?_
  have hT := mT (k := 0) hS
  obtain ⟨⟨q0, q1, ⟨m0, m1, m2, m3, m4⟩, qr, qc, qv, qd⟩, hk1, hk2, hk3, hk4⟩ := hT
  have hT := mT (k := 0) hS
  have h4 := hk2.1
  have h5 := hk3.1
  have hS0 := hS
  show Ev G 5 0 mX12_riverOf 0 [some (.ref 115), some (.int (nI r)), some (.int (nI 2))] [] w _
  refine ev_aload_n dX12_riverOf_0 rfl ?_
  refine ev_aload_n dX12_riverOf_1 rfl ?_
  refine ev_iload_n dX12_riverOf_2 rfl ?_
  refine ev_callV kX12_141 co115 (qX12_isRiver_y hS0 hr) dX12_riverOf_3 rfl (by decide) (by decide) rfl ?_
  refine ev_if_ne_t (tgt := 13) dX12_riverOf_6 (by decide) (by decide) ?_
  refine ev_iload_n dX12_riverOf_13 rfl ?_
  refine ev_iconst dX12_riverOf_14 ic0 ?_
  refine ev_iconst dX12_riverOf_15 ic5 ?_
  refine ev_callS kX12_63 (qX12_in_t (by decide) (by decide)) dX12_riverOf_16 rfl (by decide) (by decide) rfl ?_
  refine ev_if_ne_t (tgt := 26) dX12_riverOf_19 (by decide) (by decide) ?_
  refine ev_iconst dX12_riverOf_26 ic0 ?_
  refine ev_put fX12_43 dX12_riverOf_27 rfl rfl (by decide) sh115 rfl ?_
  refine ev_w (w' := wT w 0) rfl ?_
  refine ev_aload_n dX12_riverOf_30 rfl ?_
  refine ev_getI fX12_43 dX12_riverOf_31 (by decide) sh115 rfl ?_
  refine ev_top (y := nI 0) rfl ?_
  refine ev_if_le_t (tgt := 39) dX12_riverOf_34 (by decide) (by decide) ?_
  refine ev_iload_n dX12_riverOf_39 rfl ?_
  refine ev_tableIn (tgt := 89) (off := 49) dX12_riverOf_40 (by decide) (by decide) (by decide +kernel) (by decide) ?_
  refine ev_aload_n dX12_riverOf_89 rfl ?_
  refine ev_iload_n dX12_riverOf_90 rfl ?_
  refine ev_aload_n dX12_riverOf_91 rfl ?_
  refine ev_iload_n dX12_riverOf_92 rfl ?_
  refine ev_callV kX12_156 co115 (qX12_steps hT hr) dX12_riverOf_93 rfl (by decide) (by decide) rfl ?_
  refine ev_callV kX12_159 co115 (qX12_cellOf hT hr (Nat.le_refl _)) dX12_riverOf_96 rfl (by decide) (by decide) rfl ?_
  exact ev_iret dX12_riverOf_99 rfl rfl rfl rfl
set_option maxRecDepth 4000 in
theorem gX12_riverOf_3 {G : GX} {w : WS} {S : ST} (hS : mR S w) {r : Nat} (hr : r < nR S) : Big G 5 0 mX12_riverOf [.ref 115, .int (nI r), .int (nI 3)] w (.inl (some (.int (nI (rT S r))))) (wT w 0) := by
  refine big_of (by decide +kernel) (Nat.le_of_ble_eq_true rfl) ?_
  have hT := mT (k := 0) hS
  obtain ⟨⟨q0, q1, ⟨m0, m1, m2, m3, m4⟩, qr, qc, qv, qd⟩, hk1, hk2, hk3, hk4⟩ := hT
  have hT := mT (k := 0) hS
  have h4 := hk2.1
  have h5 := hk3.1
  have hS0 := hS
  show Ev G 5 0 mX12_riverOf 0 [some (.ref 115), some (.int (nI r)), some (.int (nI 3))] [] w _
  refine ev_aload_n dX12_riverOf_0 rfl ?_
  refine ev_aload_n dX12_riverOf_1 rfl ?_
  refine ev_iload_n dX12_riverOf_2 rfl ?_
  refine ev_callV kX12_141 co115 (qX12_isRiver_y hS0 hr) dX12_riverOf_3 rfl (by decide) (by decide) rfl ?_
  refine ev_if_ne_t (tgt := 13) dX12_riverOf_6 (by decide) (by decide) ?_
  refine ev_iload_n dX12_riverOf_13 rfl ?_
  refine ev_iconst dX12_riverOf_14 ic0 ?_
  refine ev_iconst dX12_riverOf_15 ic5 ?_
  refine ev_callS kX12_63 (qX12_in_t (by decide) (by decide)) dX12_riverOf_16 rfl (by decide) (by decide) rfl ?_
  refine ev_if_ne_t (tgt := 26) dX12_riverOf_19 (by decide) (by decide) ?_
  refine ev_iconst dX12_riverOf_26 ic0 ?_
  refine ev_put fX12_43 dX12_riverOf_27 rfl rfl (by decide) sh115 rfl ?_
  refine ev_w (w' := wT w 0) rfl ?_
  refine ev_aload_n dX12_riverOf_30 rfl ?_
  refine ev_getI fX12_43 dX12_riverOf_31 (by decide) sh115 rfl ?_
  refine ev_top (y := nI 0) rfl ?_
  refine ev_if_le_t (tgt := 39) dX12_riverOf_34 (by decide) (by decide) ?_
  refine ev_iload_n dX12_riverOf_39 rfl ?_
  refine ev_tableIn (tgt := 100) (off := 60) dX12_riverOf_40 (by decide) (by decide) (by decide +kernel) (by decide) ?_
  refine ev_aload_n dX12_riverOf_100 rfl ?_
  refine ev_getR fX12_9 dX12_riverOf_101 (by decide) sh115 rfl ?_
  refine ev_bipush (v := nI 83) dX12_riverOf_104 (by decide) ?_
  refine ev_bipush (v := nI 15) dX12_riverOf_106 (by decide) ?_
  refine ev_iload_n dX12_riverOf_108 rfl ?_
  refine ev_imul dX12_riverOf_109 ?_
  first | refine ev_top (pk_mul _ _) ?_ | skip
  refine ev_iadd dX12_riverOf_110 ?_
  first | refine ev_top (nI_add _ _) ?_ | skip
  refine ev_iconst dX12_riverOf_111 ic1 ?_
  refine ev_iadd dX12_riverOf_112 ?_
  first | refine ev_top (nI_add _ _) ?_ | skip
  refine ev_iaload dX12_riverOf_113 rfl (by omega) (by decide) sh116 ?_
  refine ev_top (qv r hr).2.1 ?_
  exact ev_iret dX12_riverOf_114 rfl rfl rfl rfl
set_option maxRecDepth 4000 in
theorem gX12_riverOf_4 {G : GX} {w : WS} {S : ST} (hS : mR S w) {r : Nat} (hr : r < nR S) : Big G 5 0 mX12_riverOf [.ref 115, .int (nI r), .int (nI 4)] w (.inl (some (.int (nI (rN S r) * sM S 0)))) (wT w 0) := by
  refine big_of (by decide +kernel) (Nat.le_of_ble_eq_true rfl) ?_
  have hT := mT (k := 0) hS
  obtain ⟨⟨q0, q1, ⟨m0, m1, m2, m3, m4⟩, qr, qc, qv, qd⟩, hk1, hk2, hk3, hk4⟩ := hT
  have hT := mT (k := 0) hS
  have h4 := hk2.1
  have h5 := hk3.1
  have hS0 := hS
  show Ev G 5 0 mX12_riverOf 0 [some (.ref 115), some (.int (nI r)), some (.int (nI 4))] [] w _
  refine ev_aload_n dX12_riverOf_0 rfl ?_
  refine ev_aload_n dX12_riverOf_1 rfl ?_
  refine ev_iload_n dX12_riverOf_2 rfl ?_
  refine ev_callV kX12_141 co115 (qX12_isRiver_y hS0 hr) dX12_riverOf_3 rfl (by decide) (by decide) rfl ?_
  refine ev_if_ne_t (tgt := 13) dX12_riverOf_6 (by decide) (by decide) ?_
  refine ev_iload_n dX12_riverOf_13 rfl ?_
  refine ev_iconst dX12_riverOf_14 ic0 ?_
  refine ev_iconst dX12_riverOf_15 ic5 ?_
  refine ev_callS kX12_63 (qX12_in_t (by decide) (by decide)) dX12_riverOf_16 rfl (by decide) (by decide) rfl ?_
  refine ev_if_ne_t (tgt := 26) dX12_riverOf_19 (by decide) (by decide) ?_
  refine ev_iconst dX12_riverOf_26 ic0 ?_
  refine ev_put fX12_43 dX12_riverOf_27 rfl rfl (by decide) sh115 rfl ?_
  refine ev_w (w' := wT w 0) rfl ?_
  refine ev_aload_n dX12_riverOf_30 rfl ?_
  refine ev_getI fX12_43 dX12_riverOf_31 (by decide) sh115 rfl ?_
  refine ev_top (y := nI 0) rfl ?_
  refine ev_if_le_t (tgt := 39) dX12_riverOf_34 (by decide) (by decide) ?_
  refine ev_iload_n dX12_riverOf_39 rfl ?_
  refine ev_tableIn (tgt := 115) (off := 75) dX12_riverOf_40 (by decide) (by decide) (by decide +kernel) (by decide) ?_
  refine ev_aload_n dX12_riverOf_115 rfl ?_
  refine ev_iload_n dX12_riverOf_116 rfl ?_
  refine ev_callV kX12_156 co115 (qX12_steps hT hr) dX12_riverOf_117 rfl (by decide) (by decide) rfl ?_
  refine ev_aload_n dX12_riverOf_120 rfl ?_
  refine ev_getR fX12_9 dX12_riverOf_121 (by decide) sh115 rfl ?_
  refine ev_iconst dX12_riverOf_124 ic2 ?_
  refine ev_iaload dX12_riverOf_125 rfl (by omega) (by decide) sh116 ?_
  refine ev_top m0 ?_
  refine ev_imul dX12_riverOf_126 ?_
  refine ev_top rfl ?_
  exact ev_iret dX12_riverOf_127 rfl rfl rfl rfl
set_option maxRecDepth 4000 in
theorem gX12_riverOf_5 {G : GX} {w : WS} {S : ST} (hS : mR S w) {r : Nat} (hr : r < nR S) : Big G 5 0 mX12_riverOf [.ref 115, .int (nI r), .int (nI 5)] w (.inl (some (.int (nI (ct (xs S r) (rN S r)))))) (wT w 0) := by
  refine big_of (by decide +kernel) (Nat.le_of_ble_eq_true rfl) ?_
  have hT := mT (k := 0) hS
  obtain ⟨⟨q0, q1, ⟨m0, m1, m2, m3, m4⟩, qr, qc, qv, qd⟩, hk1, hk2, hk3, hk4⟩ := hT
  have hT := mT (k := 0) hS
  have h4 := hk2.1
  have h5 := hk3.1
  have hS0 := hS
  show Ev G 5 0 mX12_riverOf 0 [some (.ref 115), some (.int (nI r)), some (.int (nI 5))] [] w _
  refine ev_aload_n dX12_riverOf_0 rfl ?_
  refine ev_aload_n dX12_riverOf_1 rfl ?_
  refine ev_iload_n dX12_riverOf_2 rfl ?_
  refine ev_callV kX12_141 co115 (qX12_isRiver_y hS0 hr) dX12_riverOf_3 rfl (by decide) (by decide) rfl ?_
  refine ev_if_ne_t (tgt := 13) dX12_riverOf_6 (by decide) (by decide) ?_
  refine ev_iload_n dX12_riverOf_13 rfl ?_
  refine ev_iconst dX12_riverOf_14 ic0 ?_
  refine ev_iconst dX12_riverOf_15 ic5 ?_
  refine ev_callS kX12_63 (qX12_in_t (by decide) (by decide)) dX12_riverOf_16 rfl (by decide) (by decide) rfl ?_
  refine ev_if_ne_t (tgt := 26) dX12_riverOf_19 (by decide) (by decide) ?_
  refine ev_iconst dX12_riverOf_26 ic0 ?_
  refine ev_put fX12_43 dX12_riverOf_27 rfl rfl (by decide) sh115 rfl ?_
  refine ev_w (w' := wT w 0) rfl ?_
  refine ev_aload_n dX12_riverOf_30 rfl ?_
  refine ev_getI fX12_43 dX12_riverOf_31 (by decide) sh115 rfl ?_
  refine ev_top (y := nI 0) rfl ?_
  refine ev_if_le_t (tgt := 39) dX12_riverOf_34 (by decide) (by decide) ?_
  refine ev_iload_n dX12_riverOf_39 rfl ?_
  refine ev_tableOut (tgt := 128) dX12_riverOf_40 (by decide) (by decide) ?_
  refine ev_aload_n dX12_riverOf_128 rfl ?_
  refine ev_iload_n dX12_riverOf_129 rfl ?_
  refine ev_callV kX12_168 co115 (qX12_crossings hT hr) dX12_riverOf_130 rfl (by decide) (by decide) rfl ?_
  exact ev_iret dX12_riverOf_133 rfl rfl rfl rfl
theorem gX12_riverOf {G : GX} {w : WS} {S : ST} (hS : mR S w) (x y : Int32) : ∃ v, ((qRv S x y).1 = 0 → v = (qRv S x y).2) ∧ Big G 5 0 mX12_riverOf [.ref 115, .int x, .int y] w (.inl (some (.int v))) (wT w (qRv S x y).1) := by
  unfold qRv
  rcases ixN_or (nR S) (by have := hS.2.2.1.1; omega) x with ⟨h1, e1⟩ | ⟨r, h1, rfl, e1⟩
  · rw [e1]; exact ⟨_, fun q => (by simp at q), gX12_riverOf_n hS h1 y⟩
  · rw [e1]
    dsimp only
    rcases ixN_or 6 (by decide) y with ⟨h2, e2⟩ | ⟨k, h2, rfl, e2⟩
    · rw [e2]; exact ⟨_, fun q => (by simp at q), gX12_riverOf_m hS h1 h2⟩
    · rw [e2]
      obtain rfl | rfl | rfl | rfl | rfl | rfl : k = 0 ∨ k = 1 ∨ k = 2 ∨ k = 3 ∨ k = 4 ∨ k = 5 := by omega
      · exact ⟨_, fun _ => rfl, gX12_riverOf_0 hS h1⟩
      · exact ⟨_, fun _ => rfl, gX12_riverOf_1 hS h1⟩
      · exact ⟨_, fun _ => rfl, gX12_riverOf_2 hS h1⟩
      · exact ⟨_, fun _ => rfl, gX12_riverOf_3 hS h1⟩
      · exact ⟨_, fun _ => rfl, gX12_riverOf_4 hS h1⟩
      · exact ⟨_, fun _ => rfl, gX12_riverOf_5 hS h1⟩
set_option maxRecDepth 4000 in
theorem gX12_riverAt_n {G : GX} {w : WS} {S : ST} (hS : mR S w) {x : Int32} (hx : out_ (nR S) x) (y : Int32) : Big G 5 0 mX12_riverAt [.ref 115, .int x, .int y] w (.inl (some (.int (nI 0)))) (wT w 1) := by
  refine big_of (by decide +kernel) (Nat.le_of_ble_eq_true rfl) ?_
  have hT := mT (k := 1) hS
  obtain ⟨⟨q0, q1, ⟨m0, m1, m2, m3, m4⟩, qr, qc, qv, qd⟩, hk1, hk2, hk3, hk4⟩ := hT
  have hT := mT (k := 1) hS
  have h4 := hk2.1
  have h5 := hk3.1
  have hS0 := hS
  show Ev G 5 0 mX12_riverAt 0 [some (.ref 115), some (.int x), some (.int y)] [] w _
  refine ev_aload_n dX12_riverAt_0 rfl ?_
  refine ev_aload_n dX12_riverAt_1 rfl ?_
  refine ev_iload_n dX12_riverAt_2 rfl ?_
  refine ev_callV kX12_141 co115 (qX12_isRiver_n hS0 hx) dX12_riverAt_3 rfl (by decide) (by decide) rfl ?_
  refine ev_if_ne_f (tgt := 13) dX12_riverAt_6 (by decide) rfl ?_
  refine ev_iconst dX12_riverAt_9 ic1 ?_
  refine ev_goto (tgt := 31) dX12_riverAt_10 (by decide) ?_
  refine ev_put fX12_43 dX12_riverAt_31 rfl rfl (by decide) sh115 rfl ?_
  refine ev_aload_n dX12_riverAt_34 rfl ?_
  refine ev_getI fX12_43 dX12_riverAt_35 (by decide) sh115 rfl ?_
  refine ev_top (y := nI 1) rfl ?_
  refine ev_if_le_f (tgt := 45) dX12_riverAt_38 (by decide) (by decide) ?_
  refine ev_iconst dX12_riverAt_41 ic0 ?_
  refine ev_goto (tgt := 51) dX12_riverAt_42 (by decide) ?_
  exact ev_iret dX12_riverAt_51 rfl rfl rfl rfl
set_option maxRecDepth 4000 in
theorem gX12_riverAt_m {G : GX} {w : WS} {S : ST} (hS : mR S w) {r : Nat} (hr : r < nR S) {y : Int32} (hy : out_ (rN S r + 1) y) : Big G 5 0 mX12_riverAt [.ref 115, .int (nI r), .int y] w (.inl (some (.int (nI 0)))) (wT w 2) := by
  refine big_of (by decide +kernel) (Nat.le_of_ble_eq_true rfl) ?_
  have hT := mT (k := 2) hS
  obtain ⟨⟨q0, q1, ⟨m0, m1, m2, m3, m4⟩, qr, qc, qv, qd⟩, hk1, hk2, hk3, hk4⟩ := hT
  have hT := mT (k := 2) hS
  have h4 := hk2.1
  have h5 := hk3.1
  have hS0 := hS
  show Ev G 5 0 mX12_riverAt 0 [some (.ref 115), some (.int (nI r)), some (.int y)] [] w _
  refine ev_aload_n dX12_riverAt_0 rfl ?_
  refine ev_aload_n dX12_riverAt_1 rfl ?_
  refine ev_iload_n dX12_riverAt_2 rfl ?_
  refine ev_callV kX12_141 co115 (qX12_isRiver_y hS0 hr) dX12_riverAt_3 rfl (by decide) (by decide) rfl ?_
  refine ev_if_ne_t (tgt := 13) dX12_riverAt_6 (by decide) (by decide) ?_
  refine ev_iload_n dX12_riverAt_13 rfl ?_
  refine ev_iconst dX12_riverAt_14 ic0 ?_
  refine ev_aload_n dX12_riverAt_15 rfl ?_
  refine ev_iload_n dX12_riverAt_16 rfl ?_
  refine ev_callV kX12_156 co115 (qX12_steps hS0 hr) dX12_riverAt_17 rfl (by decide) (by decide) rfl ?_
  refine ev_callS kX12_63 (qX12_in_f (out_hi (by have := (hk2.2 r hr).2.2.1; omega) hy)) dX12_riverAt_20 rfl (by decide) (by decide) rfl ?_
  refine ev_if_ne_f (tgt := 30) dX12_riverAt_23 (by decide) rfl ?_
  refine ev_iconst dX12_riverAt_26 ic2 ?_
  refine ev_goto (tgt := 31) dX12_riverAt_27 (by decide) ?_
  refine ev_put fX12_43 dX12_riverAt_31 rfl rfl (by decide) sh115 rfl ?_
  refine ev_aload_n dX12_riverAt_34 rfl ?_
  refine ev_getI fX12_43 dX12_riverAt_35 (by decide) sh115 rfl ?_
  refine ev_top (y := nI 2) rfl ?_
  refine ev_if_le_f (tgt := 45) dX12_riverAt_38 (by decide) (by decide) ?_
  refine ev_iconst dX12_riverAt_41 ic0 ?_
  refine ev_goto (tgt := 51) dX12_riverAt_42 (by decide) ?_
  exact ev_iret dX12_riverAt_51 rfl rfl rfl rfl
set_option maxRecDepth 4000 in
theorem gX12_riverAt_y {G : GX} {w : WS} {S : ST} (hS : mR S w) {r k : Nat} (hr : r < nR S) (hk : k < rN S r + 1) : Big G 5 0 mX12_riverAt [.ref 115, .int (nI r), .int (nI k)] w (.inl (some (.int (nI (rP S r k))))) (wT w 0) := by
  refine big_of (by decide +kernel) (Nat.le_of_ble_eq_true rfl) ?_
  have hT := mT (k := 0) hS
  obtain ⟨⟨q0, q1, ⟨m0, m1, m2, m3, m4⟩, qr, qc, qv, qd⟩, hk1, hk2, hk3, hk4⟩ := hT
  have hT := mT (k := 0) hS
  have h4 := hk2.1
  have h5 := hk3.1
  have hS0 := hS
  show Ev G 5 0 mX12_riverAt 0 [some (.ref 115), some (.int (nI r)), some (.int (nI k))] [] w _
  refine ev_aload_n dX12_riverAt_0 rfl ?_
  refine ev_aload_n dX12_riverAt_1 rfl ?_
  refine ev_iload_n dX12_riverAt_2 rfl ?_
  refine ev_callV kX12_141 co115 (qX12_isRiver_y hS0 hr) dX12_riverAt_3 rfl (by decide) (by decide) rfl ?_
  refine ev_if_ne_t (tgt := 13) dX12_riverAt_6 (by decide) (by decide) ?_
  refine ev_iload_n dX12_riverAt_13 rfl ?_
  refine ev_iconst dX12_riverAt_14 ic0 ?_
  refine ev_aload_n dX12_riverAt_15 rfl ?_
  refine ev_iload_n dX12_riverAt_16 rfl ?_
  refine ev_callV kX12_156 co115 (qX12_steps hS0 hr) dX12_riverAt_17 rfl (by decide) (by decide) rfl ?_
  refine ev_callS kX12_63 (qX12_in_t (nI_le (Nat.zero_le _) (by have := (hk2.2 r hr).2.2.1; omega)) (nI_le (by omega) (by have := (hk2.2 r hr).2.2.1; omega))) dX12_riverAt_20 rfl (by decide) (by decide) rfl ?_
  refine ev_if_ne_t (tgt := 30) dX12_riverAt_23 (by decide) (by decide) ?_
  refine ev_iconst dX12_riverAt_30 ic0 ?_
  refine ev_put fX12_43 dX12_riverAt_31 rfl rfl (by decide) sh115 rfl ?_
  refine ev_w (w' := wT w 0) rfl ?_
  refine ev_aload_n dX12_riverAt_34 rfl ?_
  refine ev_getI fX12_43 dX12_riverAt_35 (by decide) sh115 rfl ?_
  refine ev_top (y := nI 0) rfl ?_
  refine ev_if_le_t (tgt := 45) dX12_riverAt_38 (by decide) (by decide) ?_
  refine ev_aload_n dX12_riverAt_45 rfl ?_
  refine ev_iload_n dX12_riverAt_46 rfl ?_
  refine ev_iload_n dX12_riverAt_47 rfl ?_
  refine ev_callV kX12_159 co115 (qX12_cellOf hT hr (by omega)) dX12_riverAt_48 rfl (by decide) (by decide) rfl ?_
  exact ev_iret dX12_riverAt_51 rfl rfl rfl rfl
theorem gX12_riverAt {G : GX} {w : WS} {S : ST} (hS : mR S w) (x y : Int32) : ∃ v, ((qRa S x y).1 = 0 → v = (qRa S x y).2) ∧ Big G 5 0 mX12_riverAt [.ref 115, .int x, .int y] w (.inl (some (.int v))) (wT w (qRa S x y).1) := by
  unfold qRa
  rcases ixN_or (nR S) (by have := hS.2.2.1.1; omega) x with ⟨h1, e1⟩ | ⟨r, h1, rfl, e1⟩
  · rw [e1]; exact ⟨_, fun q => (by simp at q), gX12_riverAt_n hS h1 y⟩
  · rw [e1]
    dsimp only
    rcases ixN_or (rN S r + 1) (by have := (hS.2.2.1.2 r h1).2.2.1; omega) y with ⟨h2, e2⟩ | ⟨k, h2, rfl, e2⟩
    · rw [e2]; exact ⟨_, fun q => (by simp at q), gX12_riverAt_m hS h1 h2⟩
    · rw [e2]
      exact ⟨_, fun _ => rfl, gX12_riverAt_y hS h1 h2⟩
set_option maxRecDepth 4000 in
theorem gX12_dragonOf_n {G : GX} {w : WS} {S : ST} (hS : mR S w) {x : Int32} (hx : out_ (nD S) x) (y : Int32) : Big G 5 0 mX12_dragonOf [.ref 115, .int x, .int y] w (.inl (some (.int (nI 0)))) (wT w 1) := by
  refine big_of (by decide +kernel) (Nat.le_of_ble_eq_true rfl) ?_
  have hT := mT (k := 1) hS
  obtain ⟨⟨q0, q1, ⟨m0, m1, m2, m3, m4⟩, qr, qc, qv, qd⟩, hk1, hk2, hk3, hk4⟩ := hT
  have hT := mT (k := 1) hS
  have h4 := hk2.1
  have h5 := hk3.1
  have hS0 := hS
  show Ev G 5 0 mX12_dragonOf 0 [some (.ref 115), some (.int x), some (.int y)] [] w _
  refine ev_aload_n dX12_dragonOf_0 rfl ?_
  refine ev_aload_n dX12_dragonOf_1 rfl ?_
  refine ev_iload_n dX12_dragonOf_2 rfl ?_
  refine ev_callV kX12_150 co115 (qX12_isDragon_n hS0 hx) dX12_dragonOf_3 rfl (by decide) (by decide) rfl ?_
  refine ev_if_ne_f (tgt := 13) dX12_dragonOf_6 (by decide) rfl ?_
  refine ev_iconst dX12_dragonOf_9 ic1 ?_
  refine ev_goto (tgt := 27) dX12_dragonOf_10 (by decide) ?_
  refine ev_put fX12_43 dX12_dragonOf_27 rfl rfl (by decide) sh115 rfl ?_
  refine ev_aload_n dX12_dragonOf_30 rfl ?_
  refine ev_getI fX12_43 dX12_dragonOf_31 (by decide) sh115 rfl ?_
  refine ev_top (y := nI 1) rfl ?_
  refine ev_if_le_f (tgt := 41) dX12_dragonOf_34 (by decide) (by decide) ?_
  refine ev_iconst dX12_dragonOf_37 ic0 ?_
  refine ev_goto (tgt := 55) dX12_dragonOf_38 (by decide) ?_
  exact ev_iret dX12_dragonOf_55 rfl rfl rfl rfl
set_option maxRecDepth 4000 in
theorem gX12_dragonOf_m {G : GX} {w : WS} {S : ST} (hS : mR S w) {r : Nat} (hr : r < nD S) {y : Int32} (hy : out_ 3 y) : Big G 5 0 mX12_dragonOf [.ref 115, .int (nI r), .int y] w (.inl (some (.int (nI 0)))) (wT w 2) := by
  refine big_of (by decide +kernel) (Nat.le_of_ble_eq_true rfl) ?_
  have hT := mT (k := 2) hS
  obtain ⟨⟨q0, q1, ⟨m0, m1, m2, m3, m4⟩, qr, qc, qv, qd⟩, hk1, hk2, hk3, hk4⟩ := hT
  have hT := mT (k := 2) hS
  have h4 := hk2.1
  have h5 := hk3.1
  have hS0 := hS
  show Ev G 5 0 mX12_dragonOf 0 [some (.ref 115), some (.int (nI r)), some (.int y)] [] w _
  refine ev_aload_n dX12_dragonOf_0 rfl ?_
  refine ev_aload_n dX12_dragonOf_1 rfl ?_
  refine ev_iload_n dX12_dragonOf_2 rfl ?_
  refine ev_callV kX12_150 co115 (qX12_isDragon_y hS0 hr) dX12_dragonOf_3 rfl (by decide) (by decide) rfl ?_
  refine ev_if_ne_t (tgt := 13) dX12_dragonOf_6 (by decide) (by decide) ?_
  refine ev_iload_n dX12_dragonOf_13 rfl ?_
  refine ev_iconst dX12_dragonOf_14 ic0 ?_
  refine ev_iconst dX12_dragonOf_15 ic2 ?_
  refine ev_callS kX12_63 (qX12_in_f (out_hi (by decide) hy)) dX12_dragonOf_16 rfl (by decide) (by decide) rfl ?_
  refine ev_if_ne_f (tgt := 26) dX12_dragonOf_19 (by decide) rfl ?_
  refine ev_iconst dX12_dragonOf_22 ic2 ?_
  refine ev_goto (tgt := 27) dX12_dragonOf_23 (by decide) ?_
  refine ev_put fX12_43 dX12_dragonOf_27 rfl rfl (by decide) sh115 rfl ?_
  refine ev_aload_n dX12_dragonOf_30 rfl ?_
  refine ev_getI fX12_43 dX12_dragonOf_31 (by decide) sh115 rfl ?_
  refine ev_top (y := nI 2) rfl ?_
  refine ev_if_le_f (tgt := 41) dX12_dragonOf_34 (by decide) (by decide) ?_
  refine ev_iconst dX12_dragonOf_37 ic0 ?_
  refine ev_goto (tgt := 55) dX12_dragonOf_38 (by decide) ?_
  exact ev_iret dX12_dragonOf_55 rfl rfl rfl rfl
set_option maxRecDepth 4000 in
theorem gX12_dragonOf_0 {G : GX} {w : WS} {S : ST} (hS : mR S w) {r : Nat} (hr : r < nD S) : Big G 5 0 mX12_dragonOf [.ref 115, .int (nI r), .int (nI 0)] w (.inl (some (.int (nI (dC S r))))) (wT w 0) := by
  refine big_of (by decide +kernel) (Nat.le_of_ble_eq_true rfl) ?_
  have hT := mT (k := 0) hS
  obtain ⟨⟨q0, q1, ⟨m0, m1, m2, m3, m4⟩, qr, qc, qv, qd⟩, hk1, hk2, hk3, hk4⟩ := hT
  have hT := mT (k := 0) hS
  have h4 := hk2.1
  have h5 := hk3.1
  have hS0 := hS
  show Ev G 5 0 mX12_dragonOf 0 [some (.ref 115), some (.int (nI r)), some (.int (nI 0))] [] w _
  refine ev_aload_n dX12_dragonOf_0 rfl ?_
  refine ev_aload_n dX12_dragonOf_1 rfl ?_
  refine ev_iload_n dX12_dragonOf_2 rfl ?_
  refine ev_callV kX12_150 co115 (qX12_isDragon_y hS0 hr) dX12_dragonOf_3 rfl (by decide) (by decide) rfl ?_
  refine ev_if_ne_t (tgt := 13) dX12_dragonOf_6 (by decide) (by decide) ?_
  refine ev_iload_n dX12_dragonOf_13 rfl ?_
  refine ev_iconst dX12_dragonOf_14 ic0 ?_
  refine ev_iconst dX12_dragonOf_15 ic2 ?_
  refine ev_callS kX12_63 (qX12_in_t (by decide) (by decide)) dX12_dragonOf_16 rfl (by decide) (by decide) rfl ?_
  refine ev_if_ne_t (tgt := 26) dX12_dragonOf_19 (by decide) (by decide) ?_
  refine ev_iconst dX12_dragonOf_26 ic0 ?_
  refine ev_put fX12_43 dX12_dragonOf_27 rfl rfl (by decide) sh115 rfl ?_
  refine ev_w (w' := wT w 0) rfl ?_
  refine ev_aload_n dX12_dragonOf_30 rfl ?_
  refine ev_getI fX12_43 dX12_dragonOf_31 (by decide) sh115 rfl ?_
  refine ev_top (y := nI 0) rfl ?_
  refine ev_if_le_t (tgt := 41) dX12_dragonOf_34 (by decide) (by decide) ?_
  refine ev_aload_n dX12_dragonOf_41 rfl ?_
  refine ev_getR fX12_9 dX12_dragonOf_42 (by decide) sh115 rfl ?_
  refine ev_sipush (v := nI 143) dX12_dragonOf_45 (by decide) ?_
  refine ev_iconst dX12_dragonOf_48 ic3 ?_
  refine ev_iload_n dX12_dragonOf_49 rfl ?_
  refine ev_imul dX12_dragonOf_50 ?_
  first | refine ev_top (pk_mul _ _) ?_ | skip
  refine ev_iadd dX12_dragonOf_51 ?_
  first | refine ev_top (nI_add _ _) ?_ | skip
  refine ev_iload_n dX12_dragonOf_52 rfl ?_
  refine ev_iadd dX12_dragonOf_53 ?_
  first | refine ev_top (nI_add _ _) ?_ | skip
  refine ev_iaload dX12_dragonOf_54 rfl (by omega) (by decide) sh116 ?_
  refine ev_top (qd r hr).1 ?_
  exact ev_iret dX12_dragonOf_55 rfl rfl rfl rfl
set_option maxRecDepth 4000 in
theorem gX12_dragonOf_1 {G : GX} {w : WS} {S : ST} (hS : mR S w) {r : Nat} (hr : r < nD S) : Big G 5 0 mX12_dragonOf [.ref 115, .int (nI r), .int (nI 1)] w (.inl (some (.int (nI (dP S r))))) (wT w 0) := by
  refine big_of (by decide +kernel) (Nat.le_of_ble_eq_true rfl) ?_
  have hT := mT (k := 0) hS
  obtain ⟨⟨q0, q1, ⟨m0, m1, m2, m3, m4⟩, qr, qc, qv, qd⟩, hk1, hk2, hk3, hk4⟩ := hT
  have hT := mT (k := 0) hS
  have h4 := hk2.1
  have h5 := hk3.1
  have hS0 := hS
  show Ev G 5 0 mX12_dragonOf 0 [some (.ref 115), some (.int (nI r)), some (.int (nI 1))] [] w _
  refine ev_aload_n dX12_dragonOf_0 rfl ?_
  refine ev_aload_n dX12_dragonOf_1 rfl ?_
  refine ev_iload_n dX12_dragonOf_2 rfl ?_
  refine ev_callV kX12_150 co115 (qX12_isDragon_y hS0 hr) dX12_dragonOf_3 rfl (by decide) (by decide) rfl ?_
  refine ev_if_ne_t (tgt := 13) dX12_dragonOf_6 (by decide) (by decide) ?_
  refine ev_iload_n dX12_dragonOf_13 rfl ?_
  refine ev_iconst dX12_dragonOf_14 ic0 ?_
  refine ev_iconst dX12_dragonOf_15 ic2 ?_
  refine ev_callS kX12_63 (qX12_in_t (by decide) (by decide)) dX12_dragonOf_16 rfl (by decide) (by decide) rfl ?_
  refine ev_if_ne_t (tgt := 26) dX12_dragonOf_19 (by decide) (by decide) ?_
  refine ev_iconst dX12_dragonOf_26 ic0 ?_
  refine ev_put fX12_43 dX12_dragonOf_27 rfl rfl (by decide) sh115 rfl ?_
  refine ev_w (w' := wT w 0) rfl ?_
  refine ev_aload_n dX12_dragonOf_30 rfl ?_
  refine ev_getI fX12_43 dX12_dragonOf_31 (by decide) sh115 rfl ?_
  refine ev_top (y := nI 0) rfl ?_
  refine ev_if_le_t (tgt := 41) dX12_dragonOf_34 (by decide) (by decide) ?_
  refine ev_aload_n dX12_dragonOf_41 rfl ?_
  refine ev_getR fX12_9 dX12_dragonOf_42 (by decide) sh115 rfl ?_
  refine ev_sipush (v := nI 143) dX12_dragonOf_45 (by decide) ?_
  refine ev_iconst dX12_dragonOf_48 ic3 ?_
  refine ev_iload_n dX12_dragonOf_49 rfl ?_
  refine ev_imul dX12_dragonOf_50 ?_
  first | refine ev_top (pk_mul _ _) ?_ | skip
  refine ev_iadd dX12_dragonOf_51 ?_
  first | refine ev_top (nI_add _ _) ?_ | skip
  refine ev_iload_n dX12_dragonOf_52 rfl ?_
  refine ev_iadd dX12_dragonOf_53 ?_
  first | refine ev_top (nI_add _ _) ?_ | skip
  refine ev_iaload dX12_dragonOf_54 rfl (by omega) (by decide) sh116 ?_
  refine ev_top (qd r hr).2.1 ?_
  exact ev_iret dX12_dragonOf_55 rfl rfl rfl rfl
set_option maxRecDepth 4000 in
theorem gX12_dragonOf_2 {G : GX} {w : WS} {S : ST} (hS : mR S w) {r : Nat} (hr : r < nD S) : Big G 5 0 mX12_dragonOf [.ref 115, .int (nI r), .int (nI 2)] w (.inl (some (.int (nI (dQ S r))))) (wT w 0) := by
  refine big_of (by decide +kernel) (Nat.le_of_ble_eq_true rfl) ?_
  have hT := mT (k := 0) hS
  obtain ⟨⟨q0, q1, ⟨m0, m1, m2, m3, m4⟩, qr, qc, qv, qd⟩, hk1, hk2, hk3, hk4⟩ := hT
  have hT := mT (k := 0) hS
  have h4 := hk2.1
  have h5 := hk3.1
  have hS0 := hS
  show Ev G 5 0 mX12_dragonOf 0 [some (.ref 115), some (.int (nI r)), some (.int (nI 2))] [] w _
  refine ev_aload_n dX12_dragonOf_0 rfl ?_
  refine ev_aload_n dX12_dragonOf_1 rfl ?_
  refine ev_iload_n dX12_dragonOf_2 rfl ?_
  refine ev_callV kX12_150 co115 (qX12_isDragon_y hS0 hr) dX12_dragonOf_3 rfl (by decide) (by decide) rfl ?_
  refine ev_if_ne_t (tgt := 13) dX12_dragonOf_6 (by decide) (by decide) ?_
  refine ev_iload_n dX12_dragonOf_13 rfl ?_
  refine ev_iconst dX12_dragonOf_14 ic0 ?_
  refine ev_iconst dX12_dragonOf_15 ic2 ?_
  refine ev_callS kX12_63 (qX12_in_t (by decide) (by decide)) dX12_dragonOf_16 rfl (by decide) (by decide) rfl ?_
  refine ev_if_ne_t (tgt := 26) dX12_dragonOf_19 (by decide) (by decide) ?_
  refine ev_iconst dX12_dragonOf_26 ic0 ?_
  refine ev_put fX12_43 dX12_dragonOf_27 rfl rfl (by decide) sh115 rfl ?_
  refine ev_w (w' := wT w 0) rfl ?_
  refine ev_aload_n dX12_dragonOf_30 rfl ?_
  refine ev_getI fX12_43 dX12_dragonOf_31 (by decide) sh115 rfl ?_
  refine ev_top (y := nI 0) rfl ?_
  refine ev_if_le_t (tgt := 41) dX12_dragonOf_34 (by decide) (by decide) ?_
  refine ev_aload_n dX12_dragonOf_41 rfl ?_
  refine ev_getR fX12_9 dX12_dragonOf_42 (by decide) sh115 rfl ?_
  refine ev_sipush (v := nI 143) dX12_dragonOf_45 (by decide) ?_
  refine ev_iconst dX12_dragonOf_48 ic3 ?_
  refine ev_iload_n dX12_dragonOf_49 rfl ?_
  refine ev_imul dX12_dragonOf_50 ?_
  first | refine ev_top (pk_mul _ _) ?_ | skip
  refine ev_iadd dX12_dragonOf_51 ?_
  first | refine ev_top (nI_add _ _) ?_ | skip
  refine ev_iload_n dX12_dragonOf_52 rfl ?_
  refine ev_iadd dX12_dragonOf_53 ?_
  first | refine ev_top (nI_add _ _) ?_ | skip
  refine ev_iaload dX12_dragonOf_54 rfl (by omega) (by decide) sh116 ?_
  refine ev_top (qd r hr).2.2 ?_
  exact ev_iret dX12_dragonOf_55 rfl rfl rfl rfl
theorem gX12_dragonOf {G : GX} {w : WS} {S : ST} (hS : mR S w) (x y : Int32) : ∃ v, ((qDr S x y).1 = 0 → v = (qDr S x y).2) ∧ Big G 5 0 mX12_dragonOf [.ref 115, .int x, .int y] w (.inl (some (.int v))) (wT w (qDr S x y).1) := by
  unfold qDr
  rcases ixN_or (nD S) (by have := hS.2.2.2.1.1; omega) x with ⟨h1, e1⟩ | ⟨r, h1, rfl, e1⟩
  · rw [e1]; exact ⟨_, fun q => (by simp at q), gX12_dragonOf_n hS h1 y⟩
  · rw [e1]
    dsimp only
    rcases ixN_or 3 (by decide) y with ⟨h2, e2⟩ | ⟨k, h2, rfl, e2⟩
    · rw [e2]; exact ⟨_, fun q => (by simp at q), gX12_dragonOf_m hS h1 h2⟩
    · rw [e2]
      obtain rfl | rfl | rfl : k = 0 ∨ k = 1 ∨ k = 2 := by omega
      · exact ⟨_, fun _ => rfl, gX12_dragonOf_0 hS h1⟩
      · exact ⟨_, fun _ => rfl, gX12_dragonOf_1 hS h1⟩
      · exact ⟨_, fun _ => rfl, gX12_dragonOf_2 hS h1⟩
set_option maxRecDepth 4000 in
theorem gX12_weight_n {G : GX} {w : WS} {S : ST} (hS : mR S w) {x : Int32} (hx : out_ (nR S) x) : Big G 6 0 mX12_weight [.ref 115, .int x] w (.inl (some (.int (nI 0)))) (wT w 1) := by
  refine big_of (by decide +kernel) (Nat.le_of_ble_eq_true rfl) ?_
  have hT := mT (k := 1) hS
  obtain ⟨⟨q0, q1, ⟨m0, m1, m2, m3, m4⟩, qr, qc, qv, qd⟩, hk1, hk2, hk3, hk4⟩ := hT
  have hT := mT (k := 1) hS
  have h4 := hk2.1
  have h5 := hk3.1
  have hS0 := hS
  show Ev G 6 0 mX12_weight 0 [some (.ref 115), some (.int x)] [] w _
  refine ev_aload_n dX12_weight_0 rfl ?_
  refine ev_aload_n dX12_weight_1 rfl ?_
  refine ev_iload_n dX12_weight_2 rfl ?_
  refine ev_callV kX12_141 co115 (qX12_isRiver_n hS0 hx) dX12_weight_3 rfl (by decide) (by decide) rfl ?_
  refine ev_if_eq_t (tgt := 13) dX12_weight_6 (by decide) rfl ?_
  refine ev_iconst dX12_weight_13 ic1 ?_
  refine ev_put fX12_43 dX12_weight_14 rfl rfl (by decide) sh115 rfl ?_
  refine ev_aload_n dX12_weight_17 rfl ?_
  refine ev_getI fX12_43 dX12_weight_18 (by decide) sh115 rfl ?_
  refine ev_top (y := nI 1) rfl ?_
  refine ev_if_le_f (tgt := 28) dX12_weight_21 (by decide) (by decide) ?_
  refine ev_iconst dX12_weight_24 ic0 ?_
  refine ev_goto (tgt := 33) dX12_weight_25 (by decide) ?_
  exact ev_iret dX12_weight_33 rfl rfl rfl rfl
set_option maxRecDepth 4000 in
theorem gX12_weight_y {G : GX} {w : WS} {S : ST} (hS : mR S w) {r : Nat} (hr : r < nR S) : Big G 6 0 mX12_weight [.ref 115, .int (nI r)] w (.inl (some (.int (nI (wgt S r))))) (wT w 0) := by
  refine big_of (by decide +kernel) (Nat.le_of_ble_eq_true rfl) ?_
  have hT := mT (k := 0) hS
  obtain ⟨⟨q0, q1, ⟨m0, m1, m2, m3, m4⟩, qr, qc, qv, qd⟩, hk1, hk2, hk3, hk4⟩ := hT
  have hT := mT (k := 0) hS
  have h4 := hk2.1
  have h5 := hk3.1
  have hS0 := hS
  show Ev G 6 0 mX12_weight 0 [some (.ref 115), some (.int (nI r))] [] w _
  refine ev_aload_n dX12_weight_0 rfl ?_
  refine ev_aload_n dX12_weight_1 rfl ?_
  refine ev_iload_n dX12_weight_2 rfl ?_
  refine ev_callV kX12_141 co115 (qX12_isRiver_y hS0 hr) dX12_weight_3 rfl (by decide) (by decide) rfl ?_
  refine ev_if_eq_f (tgt := 13) dX12_weight_6 (by decide) (by decide) ?_
  refine ev_iconst dX12_weight_9 ic0 ?_
  refine ev_goto (tgt := 14) dX12_weight_10 (by decide) ?_
  refine ev_put fX12_43 dX12_weight_14 rfl rfl (by decide) sh115 rfl ?_
  refine ev_w (w' := wT w 0) rfl ?_
  refine ev_aload_n dX12_weight_17 rfl ?_
  refine ev_getI fX12_43 dX12_weight_18 (by decide) sh115 rfl ?_
  refine ev_top (y := nI 0) rfl ?_
  refine ev_if_le_t (tgt := 28) dX12_weight_21 (by decide) (by decide) ?_
  refine ev_aload_n dX12_weight_28 rfl ?_
  refine ev_iload_n dX12_weight_29 rfl ?_
  refine ev_callV kX12_171 co115 (qX12_weighs hT hr) dX12_weight_30 rfl (by decide) (by decide) rfl ?_
  exact ev_iret dX12_weight_33 rfl rfl rfl rfl
theorem gX12_weight {G : GX} {w : WS} {S : ST} (hS : mR S w) (x : Int32) : ∃ v, ((qWe S x).1 = 0 → v = (qWe S x).2) ∧ Big G 6 0 mX12_weight [.ref 115, .int x] w (.inl (some (.int v))) (wT w (qWe S x).1) := by
  unfold qWe
  rcases ixN_or (nR S) (by have := hS.2.2.1.1; omega) x with ⟨h1, e1⟩ | ⟨r, h1, rfl, e1⟩
  · rw [e1]; exact ⟨_, fun q => (by simp at q), gX12_weight_n hS h1⟩
  · rw [e1]; exact ⟨_, fun _ => rfl, gX12_weight_y hS h1⟩
theorem gX12_weightAgain {G : GX} {w : WS} {S : ST} (hS : mR S w) (x : Int32) : ∃ v, ((qWe S x).1 = 0 → v = (qWe S x).2) ∧ Big G 7 0 mX12_weightAgain [.ref 115, .int x] w (.inl (some (.int v))) (wT w (qWe S x).1) := by
  obtain ⟨v, hv, hB⟩ := gX12_weight (G := G) hS x
  refine ⟨v, hv, ?_⟩
  refine big_of (by decide +kernel) (Nat.le_of_ble_eq_true rfl) ?_
  show Ev G 7 0 mX12_weightAgain 0 [some (.ref 115), some (.int x)] [] w _
  refine ev_aload_n dX12_weightAgain_0 rfl ?_
  refine ev_iload_n dX12_weightAgain_1 rfl ?_
  refine ev_callV kX12_174 co115 hB dX12_weightAgain_2 rfl (by decide) (by decide) rfl ?_
  exact ev_iret dX12_weightAgain_5 rfl rfl rfl rfl
set_option maxRecDepth 4000 in
theorem gX12_border_n {G : GX} {w : WS} {S : ST} (hS : mR S w) {x : Int32} (hx : out_ 4 x) (y : Int32) : Big G 5 0 mX12_border [.ref 115, .int x, .int y] w (.inl (some (.int (nI 0)))) (wT w 1) := by
  refine big_of (by decide +kernel) (Nat.le_of_ble_eq_true rfl) ?_
  have hT := mT (k := 1) hS
  obtain ⟨⟨q0, q1, ⟨m0, m1, m2, m3, m4⟩, qr, qc, qv, qd⟩, hk1, hk2, hk3, hk4⟩ := hT
  have hT := mT (k := 1) hS
  have h4 := hk2.1
  have h5 := hk3.1
  have hS0 := hS
  show Ev G 5 0 mX12_border 0 [some (.ref 115), some (.int x), some (.int y)] [] w _
  refine ev_aload_n dX12_border_0 rfl ?_
  refine ev_iload_n dX12_border_1 rfl ?_
  refine ev_callS kX12_113 (qX12_isRealm_n hx) dX12_border_2 rfl (by decide) (by decide) rfl ?_
  refine ev_if_eq_t (tgt := 19) dX12_border_5 (by decide) rfl ?_
  refine ev_iconst dX12_border_19 ic1 ?_
  refine ev_put fX12_43 dX12_border_20 rfl rfl (by decide) sh115 rfl ?_
  refine ev_aload_n dX12_border_23 rfl ?_
  refine ev_getI fX12_43 dX12_border_24 (by decide) sh115 rfl ?_
  refine ev_top (y := nI 1) rfl ?_
  refine ev_if_gt_t (tgt := 35) dX12_border_27 (by decide) (by decide) ?_
  refine ev_iconst dX12_border_35 ic0 ?_
  refine ev_goto (tgt := 45) dX12_border_36 (by decide) ?_
  exact ev_iret dX12_border_45 rfl rfl rfl rfl
set_option maxRecDepth 4000 in
theorem gX12_border_m {G : GX} {w : WS} {S : ST} (hS : mR S w) {r : Nat} (hr : r < 4) {y : Int32} (hy : out_ 4 y) : Big G 5 0 mX12_border [.ref 115, .int (nI r), .int y] w (.inl (some (.int (nI 0)))) (wT w 1) := by
  refine big_of (by decide +kernel) (Nat.le_of_ble_eq_true rfl) ?_
  have hT := mT (k := 1) hS
  obtain ⟨⟨q0, q1, ⟨m0, m1, m2, m3, m4⟩, qr, qc, qv, qd⟩, hk1, hk2, hk3, hk4⟩ := hT
  have hT := mT (k := 1) hS
  have h4 := hk2.1
  have h5 := hk3.1
  have hS0 := hS
  show Ev G 5 0 mX12_border 0 [some (.ref 115), some (.int (nI r)), some (.int y)] [] w _
  refine ev_aload_n dX12_border_0 rfl ?_
  refine ev_iload_n dX12_border_1 rfl ?_
  refine ev_callS kX12_113 (qX12_isRealm_y hr) dX12_border_2 rfl (by decide) (by decide) rfl ?_
  refine ev_if_eq_f (tgt := 19) dX12_border_5 (by decide) (by decide) ?_
  refine ev_iload_n dX12_border_8 rfl ?_
  refine ev_callS kX12_113 (qX12_isRealm_n hy) dX12_border_9 rfl (by decide) (by decide) rfl ?_
  refine ev_if_eq_t (tgt := 19) dX12_border_12 (by decide) rfl ?_
  refine ev_iconst dX12_border_19 ic1 ?_
  refine ev_put fX12_43 dX12_border_20 rfl rfl (by decide) sh115 rfl ?_
  refine ev_aload_n dX12_border_23 rfl ?_
  refine ev_getI fX12_43 dX12_border_24 (by decide) sh115 rfl ?_
  refine ev_top (y := nI 1) rfl ?_
  refine ev_if_gt_t (tgt := 35) dX12_border_27 (by decide) (by decide) ?_
  refine ev_iconst dX12_border_35 ic0 ?_
  refine ev_goto (tgt := 45) dX12_border_36 (by decide) ?_
  exact ev_iret dX12_border_45 rfl rfl rfl rfl
set_option maxRecDepth 4000 in
theorem gX12_border_y {G : GX} {w : WS} {S : ST} (hS : mR S w) {r k : Nat} (hr : r < 4) (hk : k < 4) : Big G 5 0 mX12_border [.ref 115, .int (nI r), .int (nI k)] w (.inl (some (.int (nI (if nI r = nI k then 0 else prs S (nI r) (nI k) + prs S (nI k) (nI r)))))) (wT w 0) := by
  refine big_of (by decide +kernel) (Nat.le_of_ble_eq_true rfl) ?_
  have hT := mT (k := 0) hS
  obtain ⟨⟨q0, q1, ⟨m0, m1, m2, m3, m4⟩, qr, qc, qv, qd⟩, hk1, hk2, hk3, hk4⟩ := hT
  have hT := mT (k := 0) hS
  have h4 := hk2.1
  have h5 := hk3.1
  have hS0 := hS
  show Ev G 5 0 mX12_border 0 [some (.ref 115), some (.int (nI r)), some (.int (nI k))] [] w _
  refine ev_aload_n dX12_border_0 rfl ?_
  refine ev_iload_n dX12_border_1 rfl ?_
  refine ev_callS kX12_113 (qX12_isRealm_y hr) dX12_border_2 rfl (by decide) (by decide) rfl ?_
  refine ev_if_eq_f (tgt := 19) dX12_border_5 (by decide) (by decide) ?_
  refine ev_iload_n dX12_border_8 rfl ?_
  refine ev_callS kX12_113 (qX12_isRealm_y hk) dX12_border_9 rfl (by decide) (by decide) rfl ?_
  refine ev_if_eq_f (tgt := 19) dX12_border_12 (by decide) (by decide) ?_
  refine ev_iconst dX12_border_15 ic0 ?_
  refine ev_goto (tgt := 20) dX12_border_16 (by decide) ?_
  refine ev_put fX12_43 dX12_border_20 rfl rfl (by decide) sh115 rfl ?_
  refine ev_w (w' := wT w 0) rfl ?_
  refine ev_aload_n dX12_border_23 rfl ?_
  refine ev_getI fX12_43 dX12_border_24 (by decide) sh115 rfl ?_
  refine ev_top (y := nI 0) rfl ?_
  refine ev_if_gt_f (tgt := 35) dX12_border_27 (by decide) (by decide) ?_
  refine ev_iload_n dX12_border_30 rfl ?_
  refine ev_iload_n dX12_border_31 rfl ?_
  refine ev_icmp_ne (tgt := 39) dX12_border_32 (by decide) (fun hc32 => ?_) (fun hc32 => ?_)
  · refine ev_aload_n dX12_border_39 rfl ?_
    refine ev_iload_n dX12_border_40 rfl ?_
    refine ev_iload_n dX12_border_41 rfl ?_
    refine ev_callV kX12_177 co115 (qX12_pairs hT (nIm hk)) dX12_border_42 rfl (by decide) (by decide) rfl ?_
    refine ev_top (y := nI (if nI r = nI k then 0 else prs S (nI r) (nI k) + prs S (nI k) (nI r))) (by rw [if_neg hc32, pr4_eq (nIm hr) (nIm hk)]) ?_
    exact ev_iret dX12_border_45 rfl rfl rfl rfl
  · refine ev_iconst dX12_border_35 ic0 ?_
    refine ev_goto (tgt := 45) dX12_border_36 (by decide) ?_
    exact ev_iret dX12_border_45 rfl rfl (by rw [if_pos hc32]) rfl
theorem gX12_border {G : GX} {w : WS} {S : ST} (hS : mR S w) (x y : Int32) : ∃ v, ((qBo S x y).1 = 0 → v = (qBo S x y).2) ∧ Big G 5 0 mX12_border [.ref 115, .int x, .int y] w (.inl (some (.int v))) (wT w (qBo S x y).1) := by
  unfold qBo
  rcases ixN_or 4 (by decide) x with ⟨h1, e1⟩ | ⟨r, h1, rfl, e1⟩
  · rw [e1]; exact ⟨_, fun q => (by simp at q), gX12_border_n hS h1 y⟩
  · rw [e1]
    dsimp only
    rcases ixN_or 4 (by decide) y with ⟨h2, e2⟩ | ⟨k, h2, rfl, e2⟩
    · rw [e2]; exact ⟨_, fun q => (by simp at q), gX12_border_m hS h1 h2⟩
    · rw [e2]
      exact ⟨_, fun _ => rfl, gX12_border_y hS h1 h2⟩
set_option maxRecDepth 4000 in
theorem gX12_around_n {G : GX} {w : WS} {S : ST} (hS : mR S w) {x : Int32} (hx : out_ 4 x) : Big G 5 0 mX12_around [.ref 115, .int x] w (.inl (some (.int (nI 0)))) (wT w 1) := by
  refine big_of (by decide +kernel) (Nat.le_of_ble_eq_true rfl) ?_
  have hT := mT (k := 1) hS
  obtain ⟨⟨q0, q1, ⟨m0, m1, m2, m3, m4⟩, qr, qc, qv, qd⟩, hk1, hk2, hk3, hk4⟩ := hT
  have hT := mT (k := 1) hS
  have h4 := hk2.1
  have h5 := hk3.1
  have hS0 := hS
  show Ev G 5 0 mX12_around 0 [some (.ref 115), some (.int x)] [] w _
  refine ev_aload_n dX12_around_0 rfl ?_
  refine ev_iload_n dX12_around_1 rfl ?_
  refine ev_callS kX12_113 (qX12_isRealm_n hx) dX12_around_2 rfl (by decide) (by decide) rfl ?_
  refine ev_if_eq_t (tgt := 12) dX12_around_5 (by decide) rfl ?_
  refine ev_iconst dX12_around_12 ic1 ?_
  refine ev_put fX12_43 dX12_around_13 rfl rfl (by decide) sh115 rfl ?_
  refine ev_aload_n dX12_around_16 rfl ?_
  refine ev_getI fX12_43 dX12_around_17 (by decide) sh115 rfl ?_
  refine ev_top (y := nI 1) rfl ?_
  refine ev_if_le_f (tgt := 27) dX12_around_20 (by decide) (by decide) ?_
  refine ev_iconst dX12_around_23 ic0 ?_
  refine ev_goto (tgt := 41) dX12_around_24 (by decide) ?_
  exact ev_iret dX12_around_41 rfl rfl rfl rfl
set_option maxRecDepth 4000 in
theorem gX12_around_y {G : GX} {w : WS} {S : ST} (hS : mR S w) {r : Nat} (hr : r < 4) : Big G 5 0 mX12_around [.ref 115, .int (nI r)] w (.inl (some (.int (nI (sbs S (nI r)))))) (wT w 0) := by
  refine big_of (by decide +kernel) (Nat.le_of_ble_eq_true rfl) ?_
  have hT := mT (k := 0) hS
  obtain ⟨⟨q0, q1, ⟨m0, m1, m2, m3, m4⟩, qr, qc, qv, qd⟩, hk1, hk2, hk3, hk4⟩ := hT
  have hT := mT (k := 0) hS
  have h4 := hk2.1
  have h5 := hk3.1
  have hS0 := hS
  show Ev G 5 0 mX12_around 0 [some (.ref 115), some (.int (nI r))] [] w _
  refine ev_aload_n dX12_around_0 rfl ?_
  refine ev_iload_n dX12_around_1 rfl ?_
  refine ev_callS kX12_113 (qX12_isRealm_y hr) dX12_around_2 rfl (by decide) (by decide) rfl ?_
  refine ev_if_eq_f (tgt := 12) dX12_around_5 (by decide) (by decide) ?_
  refine ev_iconst dX12_around_8 ic0 ?_
  refine ev_goto (tgt := 13) dX12_around_9 (by decide) ?_
  refine ev_put fX12_43 dX12_around_13 rfl rfl (by decide) sh115 rfl ?_
  refine ev_w (w' := wT w 0) rfl ?_
  refine ev_aload_n dX12_around_16 rfl ?_
  refine ev_getI fX12_43 dX12_around_17 (by decide) sh115 rfl ?_
  refine ev_top (y := nI 0) rfl ?_
  refine ev_if_le_t (tgt := 27) dX12_around_20 (by decide) (by decide) ?_
  refine ev_iconst dX12_around_27 ic4 ?_
  refine ev_aload_n dX12_around_28 rfl ?_
  refine ev_iload_n dX12_around_29 rfl ?_
  refine ev_callV kX12_110 co115 (qX12_cellsOf hT) dX12_around_30 rfl (by decide) (by decide) rfl ?_
  refine ev_imul dX12_around_33 ?_
  first | refine ev_top (pk_mul _ _) ?_ | skip
  refine ev_aload_n dX12_around_34 rfl ?_
  refine ev_iload_n dX12_around_35 rfl ?_
  refine ev_iload_n dX12_around_36 rfl ?_
  refine ev_callV kX12_177 co115 (qX12_pairs hT (nIm hr)) dX12_around_37 rfl (by decide) (by decide) rfl ?_
  refine ev_isub dX12_around_40 ?_
  refine ev_top (y := nI (sbs S (nI r))) (by have h := sbs_eq (S := S) (r := nI r); rw [pk_sub (by omega)]; congr 1; omega) ?_
  exact ev_iret dX12_around_41 rfl rfl rfl rfl
theorem gX12_around {G : GX} {w : WS} {S : ST} (hS : mR S w) (x : Int32) : ∃ v, ((qAr S x).1 = 0 → v = (qAr S x).2) ∧ Big G 5 0 mX12_around [.ref 115, .int x] w (.inl (some (.int v))) (wT w (qAr S x).1) := by
  unfold qAr
  rcases ixN_or 4 (by decide) x with ⟨h1, e1⟩ | ⟨r, h1, rfl, e1⟩
  · rw [e1]; exact ⟨_, fun q => (by simp at q), gX12_around_n hS h1⟩
  · rw [e1]; exact ⟨_, fun _ => rfl, gX12_around_y hS h1⟩
theorem gX12_aroundAgain {G : GX} {w : WS} {S : ST} (hS : mR S w) (x : Int32) : ∃ v, ((qAr S x).1 = 0 → v = (qAr S x).2) ∧ Big G 7 0 mX12_aroundAgain [.ref 115, .int x] w (.inl (some (.int v))) (wT w (qAr S x).1) := by
  obtain ⟨v, hv, hB⟩ := gX12_around (G := G) hS x
  refine ⟨v, hv, ?_⟩
  refine big_of (by decide +kernel) (Nat.le_of_ble_eq_true rfl) ?_
  show Ev G 7 0 mX12_aroundAgain 0 [some (.ref 115), some (.int x)] [] w _
  refine ev_aload_n dX12_aroundAgain_0 rfl ?_
  refine ev_iload_n dX12_aroundAgain_1 rfl ?_
  refine ev_callV kX12_180 co115 hB dX12_aroundAgain_2 rfl (by decide) (by decide) rfl ?_
  exact ev_iret dX12_aroundAgain_5 rfl rfl rfl rfl
set_option maxRecDepth 4000 in
theorem gX12_couldShave_n {G : GX} {w : WS} {S : ST} (hS : mR S w) {x : Int32} (hx : out_ 64 x) (y : Int32) : Big G 6 0 mX12_couldShave [.ref 115, .int x, .int y] w (.inl (some (.int (nI 0)))) (wT w 1) := by
  refine big_of (by decide +kernel) (Nat.le_of_ble_eq_true rfl) ?_
  have hT := mT (k := 1) hS
  obtain ⟨⟨q0, q1, ⟨m0, m1, m2, m3, m4⟩, qr, qc, qv, qd⟩, hk1, hk2, hk3, hk4⟩ := hT
  have hT := mT (k := 1) hS
  have h4 := hk2.1
  have h5 := hk3.1
  have hS0 := hS
  show Ev G 6 0 mX12_couldShave 0 [some (.ref 115), some (.int x), some (.int y)] [] w _
  refine ev_aload_n dX12_couldShave_0 rfl ?_
  refine ev_iload_n dX12_couldShave_1 rfl ?_
  refine ev_callS kX12_78 (qX12_isCell_n hx) dX12_couldShave_2 rfl (by decide) (by decide) rfl ?_
  refine ev_if_eq_t (tgt := 19) dX12_couldShave_5 (by decide) rfl ?_
  refine ev_iconst dX12_couldShave_19 ic1 ?_
  refine ev_put fX12_43 dX12_couldShave_20 rfl rfl (by decide) sh115 rfl ?_
  refine ev_aload_n dX12_couldShave_23 rfl ?_
  refine ev_getI fX12_43 dX12_couldShave_24 (by decide) sh115 rfl ?_
  refine ev_top (y := nI 1) rfl ?_
  refine ev_if_ne_t (tgt := 43) dX12_couldShave_27 (by decide) (by decide) ?_
  refine ev_iconst dX12_couldShave_43 ic0 ?_
  exact ev_iret dX12_couldShave_44 rfl rfl rfl rfl
set_option maxRecDepth 4000 in
theorem gX12_couldShave_m {G : GX} {w : WS} {S : ST} (hS : mR S w) {r : Nat} (hr : r < 64) {y : Int32} (hy : out_ 4 y) : Big G 6 0 mX12_couldShave [.ref 115, .int (nI r), .int y] w (.inl (some (.int (nI 0)))) (wT w 1) := by
  refine big_of (by decide +kernel) (Nat.le_of_ble_eq_true rfl) ?_
  have hT := mT (k := 1) hS
  obtain ⟨⟨q0, q1, ⟨m0, m1, m2, m3, m4⟩, qr, qc, qv, qd⟩, hk1, hk2, hk3, hk4⟩ := hT
  have hT := mT (k := 1) hS
  have h4 := hk2.1
  have h5 := hk3.1
  have hS0 := hS
  show Ev G 6 0 mX12_couldShave 0 [some (.ref 115), some (.int (nI r)), some (.int y)] [] w _
  refine ev_aload_n dX12_couldShave_0 rfl ?_
  refine ev_iload_n dX12_couldShave_1 rfl ?_
  refine ev_callS kX12_78 (qX12_isCell_y hr) dX12_couldShave_2 rfl (by decide) (by decide) rfl ?_
  refine ev_if_eq_f (tgt := 19) dX12_couldShave_5 (by decide) (by decide) ?_
  refine ev_iload_n dX12_couldShave_8 rfl ?_
  refine ev_callS kX12_113 (qX12_isRealm_n hy) dX12_couldShave_9 rfl (by decide) (by decide) rfl ?_
  refine ev_if_eq_t (tgt := 19) dX12_couldShave_12 (by decide) rfl ?_
  refine ev_iconst dX12_couldShave_19 ic1 ?_
  refine ev_put fX12_43 dX12_couldShave_20 rfl rfl (by decide) sh115 rfl ?_
  refine ev_aload_n dX12_couldShave_23 rfl ?_
  refine ev_getI fX12_43 dX12_couldShave_24 (by decide) sh115 rfl ?_
  refine ev_top (y := nI 1) rfl ?_
  refine ev_if_ne_t (tgt := 43) dX12_couldShave_27 (by decide) (by decide) ?_
  refine ev_iconst dX12_couldShave_43 ic0 ?_
  exact ev_iret dX12_couldShave_44 rfl rfl rfl rfl
set_option maxRecDepth 4000 in
theorem gX12_couldShave_y {G : GX} {w : WS} {S : ST} (hS : mR S w) {r k : Nat} (hr : r < 64) (hk : k < 4) : Big G 6 0 mX12_couldShave [.ref 115, .int (nI r), .int (nI k)] w (.inl (some (.int (bI (canB S (nI k) r))))) (wT w 0) := by
  refine big_of (by decide +kernel) (Nat.le_of_ble_eq_true rfl) ?_
  have hT := mT (k := 0) hS
  obtain ⟨⟨q0, q1, ⟨m0, m1, m2, m3, m4⟩, qr, qc, qv, qd⟩, hk1, hk2, hk3, hk4⟩ := hT
  have hT := mT (k := 0) hS
  have h4 := hk2.1
  have h5 := hk3.1
  have hS0 := hS
  show Ev G 6 0 mX12_couldShave 0 [some (.ref 115), some (.int (nI r)), some (.int (nI k))] [] w _
  refine ev_aload_n dX12_couldShave_0 rfl ?_
  refine ev_iload_n dX12_couldShave_1 rfl ?_
  refine ev_callS kX12_78 (qX12_isCell_y hr) dX12_couldShave_2 rfl (by decide) (by decide) rfl ?_
  refine ev_if_eq_f (tgt := 19) dX12_couldShave_5 (by decide) (by decide) ?_
  refine ev_iload_n dX12_couldShave_8 rfl ?_
  refine ev_callS kX12_113 (qX12_isRealm_y hk) dX12_couldShave_9 rfl (by decide) (by decide) rfl ?_
  refine ev_if_eq_f (tgt := 19) dX12_couldShave_12 (by decide) (by decide) ?_
  refine ev_iconst dX12_couldShave_15 ic0 ?_
  refine ev_goto (tgt := 20) dX12_couldShave_16 (by decide) ?_
  refine ev_put fX12_43 dX12_couldShave_20 rfl rfl (by decide) sh115 rfl ?_
  refine ev_w (w' := wT w 0) rfl ?_
  refine ev_aload_n dX12_couldShave_23 rfl ?_
  refine ev_getI fX12_43 dX12_couldShave_24 (by decide) sh115 rfl ?_
  refine ev_top (y := nI 0) rfl ?_
  refine ev_if_ne_f (tgt := 43) dX12_couldShave_27 (by decide) rfl ?_
  refine ev_aload_n dX12_couldShave_30 rfl ?_
  refine ev_iload_n dX12_couldShave_31 rfl ?_
  refine ev_iload_n dX12_couldShave_32 rfl ?_
  refine ev_callV kX12_189 co115 (qX12_can hT hr) dX12_couldShave_33 rfl (by decide) (by decide) rfl ?_
  refine ev_ifb_eq (tgt := 43) dX12_couldShave_36 (by decide) (fun hc36 => ?_) (fun hc36 => ?_)
  · refine ev_iconst dX12_couldShave_43 ic0 ?_
    exact ev_iret dX12_couldShave_44 rfl rfl (by rw [hc36]; rfl) rfl
  · refine ev_iconst dX12_couldShave_39 ic1 ?_
    refine ev_goto (tgt := 44) dX12_couldShave_40 (by decide) ?_
    exact ev_iret dX12_couldShave_44 rfl rfl (by rw [hc36]; rfl) rfl
theorem gX12_couldShave {G : GX} {w : WS} {S : ST} (hS : mR S w) (x y : Int32) : ∃ v, ((qCs S x y).1 = 0 → v = (qCs S x y).2) ∧ Big G 6 0 mX12_couldShave [.ref 115, .int x, .int y] w (.inl (some (.int v))) (wT w (qCs S x y).1) := by
  unfold qCs
  rcases ixN_or 64 (by decide) x with ⟨h1, e1⟩ | ⟨r, h1, rfl, e1⟩
  · rw [e1]; exact ⟨_, fun q => (by simp at q), gX12_couldShave_n hS h1 y⟩
  · rw [e1]
    dsimp only
    rcases ixN_or 4 (by decide) y with ⟨h2, e2⟩ | ⟨k, h2, rfl, e2⟩
    · rw [e2]; exact ⟨_, fun q => (by simp at q), gX12_couldShave_m hS h1 h2⟩
    · rw [e2]
      exact ⟨_, fun _ => rfl, gX12_couldShave_y hS h1 h2⟩
set_option maxRecDepth 4000 in
theorem gX12_shavable_n {G : GX} {w : WS} {S : ST} (hS : mR S w) {x : Int32} (hx : out_ 4 x) : Big G 6 0 mX12_shavable [.ref 115, .int x] w (.inl (some (.int (nI 0)))) (wT w 1) := by
  refine big_of (by decide +kernel) (Nat.le_of_ble_eq_true rfl) ?_
  have hT := mT (k := 1) hS
  obtain ⟨⟨q0, q1, ⟨m0, m1, m2, m3, m4⟩, qr, qc, qv, qd⟩, hk1, hk2, hk3, hk4⟩ := hT
  have hT := mT (k := 1) hS
  have h4 := hk2.1
  have h5 := hk3.1
  have hS0 := hS
  show Ev G 6 0 mX12_shavable 0 [some (.ref 115), some (.int x), none, none] [] w _
  refine ev_aload_n dX12_shavable_0 rfl ?_
  refine ev_iload_n dX12_shavable_1 rfl ?_
  refine ev_callS kX12_113 (qX12_isRealm_n hx) dX12_shavable_2 rfl (by decide) (by decide) rfl ?_
  refine ev_if_eq_t (tgt := 12) dX12_shavable_5 (by decide) rfl ?_
  refine ev_iconst dX12_shavable_12 ic1 ?_
  refine ev_put fX12_43 dX12_shavable_13 rfl rfl (by decide) sh115 rfl ?_
  refine ev_iconst dX12_shavable_16 ic0 ?_
  refine ev_ist2 dX12_shavable_17 (by decide) rfl ?_
  refine ev_iconst dX12_shavable_18 ic0 ?_
  refine ev_ist3 dX12_shavable_19 (by decide) rfl ?_
  refine ev_iload_n dX12_shavable_20 rfl ?_
  refine ev_bipush (v := nI 64) dX12_shavable_21 (by decide) ?_
  refine ev_icmp_ge_f (tgt := 56) dX12_shavable_23 (by decide) (by decide) ?_
  refine ev_aload_n dX12_shavable_26 rfl ?_
  refine ev_getI fX12_43 dX12_shavable_27 (by decide) sh115 rfl ?_
  refine ev_top (y := nI 1) rfl ?_
  refine ev_if_ne_t (tgt := 56) dX12_shavable_30 (by decide) (by decide) ?_
  refine ev_iload_n dX12_shavable_56 rfl ?_
  exact ev_iret dX12_shavable_57 rfl rfl rfl rfl
set_option maxRecDepth 4000 in
theorem gX12_shavable_y {G : GX} {w : WS} {S : ST} (hS : mR S w) {r : Nat} (hr : r < 4) : Big G 6 0 mX12_shavable [.ref 115, .int (nI r)] w (.inl (some (.int (nI (ct (canB S (nI r)) 64))))) (wT w 0) := by
  refine big_of (by decide +kernel) (Nat.le_of_ble_eq_true rfl) ?_
  have hT := mT (k := 0) hS
  obtain ⟨⟨q0, q1, ⟨m0, m1, m2, m3, m4⟩, qr, qc, qv, qd⟩, hk1, hk2, hk3, hk4⟩ := hT
  have hT := mT (k := 0) hS
  have h4 := hk2.1
  have h5 := hk3.1
  have hS0 := hS
  show Ev G 6 0 mX12_shavable 0 [some (.ref 115), some (.int (nI r)), none, none] [] w _
  refine ev_aload_n dX12_shavable_0 rfl ?_
  refine ev_iload_n dX12_shavable_1 rfl ?_
  refine ev_callS kX12_113 (qX12_isRealm_y hr) dX12_shavable_2 rfl (by decide) (by decide) rfl ?_
  refine ev_if_eq_f (tgt := 12) dX12_shavable_5 (by decide) (by decide) ?_
  refine ev_iconst dX12_shavable_8 ic0 ?_
  refine ev_goto (tgt := 13) dX12_shavable_9 (by decide) ?_
  refine ev_put fX12_43 dX12_shavable_13 rfl rfl (by decide) sh115 rfl ?_
  refine ev_w (w' := wT w 0) rfl ?_
  refine ev_iconst dX12_shavable_16 ic0 ?_
  refine ev_ist2 dX12_shavable_17 (by decide) rfl ?_
  refine ev_iconst dX12_shavable_18 ic0 ?_
  refine ev_ist3 dX12_shavable_19 (by decide) rfl ?_
  have lp : ∀ (n9 j : Nat) , j + n9 = 64 → Ev G 6 0 mX12_shavable 20 [some (.ref 115), some (.int (nI r)), some (.int (nI (ct (canB S (nI r)) j))), some (.int (nI j))] [] (wT w 0) (zu_ G (.inl (some (.int (nI (ct (canB S (nI r)) 64))))) (wT w 0)) := by
    intro n9
    induction n9 with
    | zero =>
      intro j  hi9 
      refine ev_iload_n dX12_shavable_20 rfl ?_
      refine ev_bipush (v := nI 64) dX12_shavable_21 (by decide) ?_
      refine ev_icmp_ge_t (tgt := 56) dX12_shavable_23 (by decide) (nI_le (by omega) (by omega)) ?_
      refine ev_iload_n dX12_shavable_56 rfl ?_
      exact ev_iret dX12_shavable_57 rfl rfl (by rw [show j = 64 by omega]) rfl
    | succ n9 ih =>
      intro j  hi9 
      refine ev_iload_n dX12_shavable_20 rfl ?_
      refine ev_bipush (v := nI 64) dX12_shavable_21 (by decide) ?_
      refine ev_icmp_ge_f (tgt := 56) dX12_shavable_23 (by decide) (nI_ge (by omega) (by decide)) ?_
      refine ev_aload_n dX12_shavable_26 rfl ?_
      refine ev_getI fX12_43 dX12_shavable_27 (by decide) sh115 rfl ?_
      refine ev_top (y := nI 0) rfl ?_
      refine ev_if_ne_f (tgt := 56) dX12_shavable_30 (by decide) rfl ?_
      refine ev_iload_n dX12_shavable_33 rfl ?_
      refine ev_aload_n dX12_shavable_34 rfl ?_
      refine ev_iload_n dX12_shavable_35 rfl ?_
      refine ev_iload_n dX12_shavable_36 rfl ?_
      refine ev_callV kX12_189 co115 (qX12_can hT (by omega)) dX12_shavable_37 rfl (by decide) (by decide) rfl ?_
      refine ev_ifb_eq (tgt := 47) dX12_shavable_40 (by decide) (fun hc40 => ?_) (fun hc40 => ?_)
      · refine ev_iconst dX12_shavable_47 ic0 ?_
        refine ev_iadd dX12_shavable_48 ?_
        refine ev_top (y := nI (ct (canB S (nI r)) (j + 1))) (by rw [nI_add, ct_f (p := (canB S (nI r))) hc40]; rfl) ?_
        refine ev_ist2 dX12_shavable_49 (by decide) rfl ?_
        refine ev_iinc3 dX12_shavable_50 (nI_inc _) (by decide) rfl ?_
        refine ev_goto (tgt := 20) dX12_shavable_53 (by decide) ?_
        exact ih (j + 1) (by omega)
      · refine ev_iconst dX12_shavable_43 ic1 ?_
        refine ev_goto (tgt := 48) dX12_shavable_44 (by decide) ?_
        refine ev_iadd dX12_shavable_48 ?_
        refine ev_top (y := nI (ct (canB S (nI r)) (j + 1))) (by rw [nI_add, ct_t (p := (canB S (nI r))) hc40]) ?_
        refine ev_ist2 dX12_shavable_49 (by decide) rfl ?_
        refine ev_iinc3 dX12_shavable_50 (nI_inc _) (by decide) rfl ?_
        refine ev_goto (tgt := 20) dX12_shavable_53 (by decide) ?_
        exact ih (j + 1) (by omega)
  exact lp 64 0 rfl
theorem gX12_shavable {G : GX} {w : WS} {S : ST} (hS : mR S w) (x : Int32) : ∃ v, ((qSh S x).1 = 0 → v = (qSh S x).2) ∧ Big G 6 0 mX12_shavable [.ref 115, .int x] w (.inl (some (.int v))) (wT w (qSh S x).1) := by
  unfold qSh
  rcases ixN_or 4 (by decide) x with ⟨h1, e1⟩ | ⟨r, h1, rfl, e1⟩
  · rw [e1]; exact ⟨_, fun q => (by simp at q), gX12_shavable_n hS h1⟩
  · rw [e1]; exact ⟨_, fun _ => rfl, gX12_shavable_y hS h1⟩
set_option maxRecDepth 4000 in
theorem gX12_lies_n {G : GX} {w : WS} {S : ST} (hS : mR S w) {b : Bool} {x : Int32} (hx : x < nI 1 ∨ nI 7 < x) : Big G 5 0 mX12_lies [.ref 115, .int (bI b), .int x] w (.inl (some (.int (nI 0)))) (wT w 1) := by
  refine big_of (by decide +kernel) (Nat.le_of_ble_eq_true rfl) ?_
  have hT := mT (k := 1) hS
  obtain ⟨⟨q0, q1, ⟨m0, m1, m2, m3, m4⟩, qr, qc, qv, qd⟩, hk1, hk2, hk3, hk4⟩ := hT
  have hT := mT (k := 1) hS
  have h4 := hk2.1
  have h5 := hk3.1
  have hS0 := hS
  show Ev G 5 0 mX12_lies 0 [some (.ref 115), some (.int (bI b)), some (.int x)] [] w _
  refine ev_aload_n dX12_lies_0 rfl ?_
  refine ev_iload_n dX12_lies_1 rfl ?_
  refine ev_iconst dX12_lies_2 ic1 ?_
  refine ev_bipush (v := nI 7) dX12_lies_3 (by decide) ?_
  refine ev_callS kX12_63 (qX12_in_f hx) dX12_lies_5 rfl (by decide) (by decide) rfl ?_
  refine ev_if_eq_t (tgt := 15) dX12_lies_8 (by decide) rfl ?_
  refine ev_iconst dX12_lies_15 ic1 ?_
  refine ev_put fX12_43 dX12_lies_16 rfl rfl (by decide) sh115 rfl ?_
  refine ev_aload_n dX12_lies_19 rfl ?_
  refine ev_getI fX12_43 dX12_lies_20 (by decide) sh115 rfl ?_
  refine ev_top (y := nI 1) rfl ?_
  refine ev_if_le_f (tgt := 30) dX12_lies_23 (by decide) (by decide) ?_
  refine ev_iconst dX12_lies_26 ic0 ?_
  refine ev_goto (tgt := 36) dX12_lies_27 (by decide) ?_
  exact ev_iret dX12_lies_36 rfl rfl rfl rfl
set_option maxRecDepth 4000 in
theorem gX12_lies_y {G : GX} {w : WS} {S : ST} (hS : mR S w) {b : Bool} {c : Nat} (h1 : 1 ≤ c) (h8 : c < 8) : Big G 5 0 mX12_lies [.ref 115, .int (bI b), .int (nI c)] w (.inl (some (.int (nI (lys S b c))))) (wT w 0) := by
  refine big_of (by decide +kernel) (Nat.le_of_ble_eq_true rfl) ?_
  have hT := mT (k := 0) hS
  obtain ⟨⟨q0, q1, ⟨m0, m1, m2, m3, m4⟩, qr, qc, qv, qd⟩, hk1, hk2, hk3, hk4⟩ := hT
  have hT := mT (k := 0) hS
  have h4 := hk2.1
  have h5 := hk3.1
  have hS0 := hS
  show Ev G 5 0 mX12_lies 0 [some (.ref 115), some (.int (bI b)), some (.int (nI c))] [] w _
  refine ev_aload_n dX12_lies_0 rfl ?_
  refine ev_iload_n dX12_lies_1 rfl ?_
  refine ev_iconst dX12_lies_2 ic1 ?_
  refine ev_bipush (v := nI 7) dX12_lies_3 (by decide) ?_
  refine ev_callS kX12_63 (qX12_in_t (nI_le h1 (by omega)) (nI_le (by omega) (by decide))) dX12_lies_5 rfl (by decide) (by decide) rfl ?_
  refine ev_if_eq_f (tgt := 15) dX12_lies_8 (by decide) (by decide) ?_
  refine ev_iconst dX12_lies_11 ic0 ?_
  refine ev_goto (tgt := 16) dX12_lies_12 (by decide) ?_
  refine ev_put fX12_43 dX12_lies_16 rfl rfl (by decide) sh115 rfl ?_
  refine ev_w (w' := wT w 0) rfl ?_
  refine ev_aload_n dX12_lies_19 rfl ?_
  refine ev_getI fX12_43 dX12_lies_20 (by decide) sh115 rfl ?_
  refine ev_top (y := nI 0) rfl ?_
  refine ev_if_le_t (tgt := 30) dX12_lies_23 (by decide) (by decide) ?_
  refine ev_aload_n dX12_lies_30 rfl ?_
  refine ev_iload_n dX12_lies_31 rfl ?_
  refine ev_iload_n dX12_lies_32 rfl ?_
  refine ev_callV kX12_192 co115 (qX12_lieMany hT h1 (by omega)) dX12_lies_33 rfl (by decide) (by decide) rfl ?_
  exact ev_iret dX12_lies_36 rfl rfl rfl rfl
theorem gX12_lies {G : GX} {w : WS} {S : ST} (hS : mR S w) (b : Bool) (x : Int32) : ∃ v, ((qLi S b x).1 = 0 → v = (qLi S b x).2) ∧ Big G 5 0 mX12_lies [.ref 115, .int (bI b), .int x] w (.inl (some (.int v))) (wT w (qLi S b x).1) := by
  unfold qLi
  rcases ixN_or 8 (by decide) x with ⟨h1, e1⟩ | ⟨c, h1, rfl, e1⟩
  · rw [e1]
    exact ⟨_, fun q => (by simp at q), gX12_lies_n hS (h1.elim (fun q => Or.inl (Int32.lt_trans q (by decide))) (fun q => Or.inr (nI_lt10 (by decide) q)))⟩
  · rw [e1]
    dsimp only
    by_cases e : c = 0
    · rw [if_pos e, e]; exact ⟨_, fun q => (by simp at q), gX12_lies_n hS (Or.inl (by decide))⟩
    · rw [if_neg e]; exact ⟨_, fun _ => rfl, gX12_lies_y hS (by omega) h1⟩
theorem gX12_liesAgain {G : GX} {w : WS} {S : ST} (hS : mR S w) (b : Bool) (x : Int32) : ∃ v, ((qLi S b x).1 = 0 → v = (qLi S b x).2) ∧ Big G 7 0 mX12_liesAgain [.ref 115, .int (bI b), .int x] w (.inl (some (.int v))) (wT w (qLi S b x).1) := by
  obtain ⟨v, hv, hB⟩ := gX12_lies (G := G) hS b x
  refine ⟨v, hv, ?_⟩
  refine big_of (by decide +kernel) (Nat.le_of_ble_eq_true rfl) ?_
  show Ev G 7 0 mX12_liesAgain 0 [some (.ref 115), some (.int (bI b)), some (.int x)] [] w _
  refine ev_aload_n dX12_liesAgain_0 rfl ?_
  refine ev_iload_n dX12_liesAgain_1 rfl ?_
  refine ev_iload_n dX12_liesAgain_2 rfl ?_
  refine ev_callV kX12_196 co115 hB dX12_liesAgain_3 rfl (by decide) (by decide) rfl ?_
  exact ev_iret dX12_liesAgain_6 rfl rfl rfl rfl
set_option maxRecDepth 4000 in
theorem gX12_bestFold_y {G : GX} {w : WS} {S : ST} (hS : mR S w) {b : Bool} : Big G 5 0 mX12_bestFold [.ref 115, .int (bI b)] w (.inl (some (.int (nI (bst (lys S b) 7))))) (wT w 0) := by
  refine big_of (by decide +kernel) (Nat.le_of_ble_eq_true rfl) ?_
  have hT := mT (k := 0) hS
  obtain ⟨⟨q0, q1, ⟨m0, m1, m2, m3, m4⟩, qr, qc, qv, qd⟩, hk1, hk2, hk3, hk4⟩ := hT
  have hT := mT (k := 0) hS
  have h4 := hk2.1
  have h5 := hk3.1
  have hS0 := hS
  show Ev G 5 0 mX12_bestFold 0 [some (.ref 115), some (.int (bI b)), none, none] [] w _
  refine ev_aload_n dX12_bestFold_0 rfl ?_
  refine ev_iconst dX12_bestFold_1 ic0 ?_
  refine ev_put fX12_43 dX12_bestFold_2 rfl rfl (by decide) sh115 rfl ?_
  refine ev_w (w' := wT w 0) rfl ?_
  refine ev_iconst dX12_bestFold_5 ic1 ?_
  refine ev_ist2 dX12_bestFold_6 (by decide) rfl ?_
  refine ev_iconst dX12_bestFold_7 ic2 ?_
  refine ev_ist3 dX12_bestFold_8 (by decide) rfl ?_
  have lp : ∀ (n9 j : Nat) , j + n9 = 8 → 2 ≤ j → Ev G 5 0 mX12_bestFold 9 [some (.ref 115), some (.int (bI b)), some (.int (nI (bst (lys S b) (j - 1)))), some (.int (nI j))] [] (wT w 0) (zu_ G (.inl (some (.int (nI (bst (lys S b) 7))))) (wT w 0)) := by
    intro n9
    induction n9 with
    | zero =>
      intro j  hi9 hj
      refine ev_iload_n dX12_bestFold_9 rfl ?_
      refine ev_bipush (v := nI 8) dX12_bestFold_10 (by decide) ?_
      refine ev_icmp_ge_t (tgt := 42) dX12_bestFold_12 (by decide) (nI_le (by omega) (by omega)) ?_
      refine ev_iload_n dX12_bestFold_42 rfl ?_
      exact ev_iret dX12_bestFold_43 rfl rfl (by rw [show j - 1 = 7 by omega]) rfl
    | succ n9 ih =>
      intro j  hi9 hj
      refine ev_iload_n dX12_bestFold_9 rfl ?_
      refine ev_bipush (v := nI 8) dX12_bestFold_10 (by decide) ?_
      refine ev_icmp_ge_f (tgt := 42) dX12_bestFold_12 (by decide) (nI_ge (by omega) (by decide)) ?_
      refine ev_aload_n dX12_bestFold_15 rfl ?_
      refine ev_iload_n dX12_bestFold_16 rfl ?_
      refine ev_iload_n dX12_bestFold_17 rfl ?_
      have hb2 := bst_le (lys S b) (j - 1) (by omega)
      have hl1 := lys_l32 S b j
      have hl2 := lys_l32 S b (bst (lys S b) (j - 1))
      have hs := bst_s (lys S b) (n := j - 1) (by omega)
      rw [show j - 1 + 1 = j by omega] at hs
      refine ev_callV kX12_192 co115 (qX12_lieMany hT (by omega) (by omega)) dX12_bestFold_18 rfl (by decide) (by decide) rfl ?_
      refine ev_aload_n dX12_bestFold_21 rfl ?_
      refine ev_iload_n dX12_bestFold_22 rfl ?_
      refine ev_iload_n dX12_bestFold_23 rfl ?_
      refine ev_callV kX12_192 co115 (qX12_lieMany hT (by omega) (by omega)) dX12_bestFold_24 rfl (by decide) (by decide) rfl ?_
      refine ev_icmp_ge (tgt := 34) dX12_bestFold_27 (by decide) (fun hc27 => ?_) (fun hc27 => ?_)
      · have e27 : ¬ lys S b j < lys S b (bst (lys S b) (j - 1)) := fun q => nI_ge q (by omega) hc27
        rw [if_neg e27] at hs
        refine ev_iload_n dX12_bestFold_34 rfl ?_
        refine ev_ist2 dX12_bestFold_35 (by decide) rfl ?_
        refine ev_iinc3 dX12_bestFold_36 (nI_inc _) (by decide) rfl ?_
        refine ev_goto (tgt := 9) dX12_bestFold_39 (by decide) ?_
        have q := ih (j + 1) (by omega) (by omega)
        rw [show j + 1 - 1 = j by omega, hs] at q
        exact q
      · have e27 : lys S b j < lys S b (bst (lys S b) (j - 1)) := Nat.lt_of_not_le (fun q => hc27 (nI_le q (by omega)))
        rw [if_pos e27] at hs
        refine ev_iload_n dX12_bestFold_30 rfl ?_
        refine ev_goto (tgt := 35) dX12_bestFold_31 (by decide) ?_
        refine ev_ist2 dX12_bestFold_35 (by decide) rfl ?_
        refine ev_iinc3 dX12_bestFold_36 (nI_inc _) (by decide) rfl ?_
        refine ev_goto (tgt := 9) dX12_bestFold_39 (by decide) ?_
        have q := ih (j + 1) (by omega) (by omega)
        rw [show j + 1 - 1 = j by omega, hs] at q
        exact q
  exact lp 6 2 rfl (Nat.le_refl _)
set_option maxRecDepth 4000 in
theorem gX12_wrong {G : GX} {w : WS} {S : ST} (hS : mR S w) : Big G 5 0 mX12_wrong [.ref 115] w (.inl (some (.int (qWr S)))) (wT w 0) := by
  refine big_of (by decide +kernel) (Nat.le_of_ble_eq_true rfl) ?_
  have hT := mT (k := 0) hS
  obtain ⟨⟨q0, q1, ⟨m0, -⟩, -⟩, -⟩ := id hT
  obtain ⟨mm, hm1, hm9, hm0⟩ := hS.2.2.2.2
  show Ev G 5 0 mX12_wrong 0 [some (.ref 115)] [] w _
  refine ev_aload_n dX12_wrong_0 rfl ?_
  refine ev_iconst dX12_wrong_1 ic0 ?_
  refine ev_put fX12_43 dX12_wrong_2 rfl rfl (by decide) sh115 rfl ?_
  refine ev_w (w' := wT w 0) rfl ?_
  refine ev_aload_n dX12_wrong_5 rfl ?_
  refine ev_aload_n dX12_wrong_6 rfl ?_
  refine ev_getR fX12_9 dX12_wrong_7 (by decide) sh115 rfl ?_
  refine ev_iconst dX12_wrong_10 ic2 ?_
  refine ev_iaload dX12_wrong_11 rfl (by omega) (by decide) sh116 ?_
  refine ev_top (m0.trans hm0) ?_
  refine ev_callV kX12_204 co115 (qX12_wrongBy hT hm9) dX12_wrong_12 rfl (by decide) (by decide) rfl ?_
  exact ev_iret dX12_wrong_15 rfl rfl (by unfold qWr; rw [hm0, oN_nI (by omega)]) rfl
set_option maxRecDepth 4000 in
theorem gX12_bestScale_n {G : GX} {w : WS} {S : ST} (hS : mR S w) (hn : nR S = 0) : Big G 5 0 mX12_bestScale [.ref 115] w (.inl (some (.int (nI 0)))) (wT w 1) := by
  refine big_of (by decide +kernel) (Nat.le_of_ble_eq_true rfl) ?_
  have hT := mT (k := 1) hS
  obtain ⟨⟨q0, q1, ⟨m0, m1, m2, m3, m4⟩, qr, qc, qv, qd⟩, hk1, hk2, hk3, hk4⟩ := hT
  have hT := mT (k := 1) hS
  have h4 := hk2.1
  have h5 := hk3.1
  have hS0 := hS
  show Ev G 5 0 mX12_bestScale 0 [some (.ref 115), none, none] [] w _
  refine ev_aload_n dX12_bestScale_0 rfl ?_
  refine ev_aload_n dX12_bestScale_1 rfl ?_
  refine ev_getR fX12_9 dX12_bestScale_2 (by decide) sh115 rfl ?_
  refine ev_iconst dX12_bestScale_5 ic0 ?_
  refine ev_iaload dX12_bestScale_6 rfl (by omega) (by decide) sh116 ?_
  refine ev_top (q0.trans (by rw [hn]) : _ = nI 0) ?_
  refine ev_if_ne_f (tgt := 14) dX12_bestScale_7 (by decide) rfl ?_
  refine ev_iconst dX12_bestScale_10 ic1 ?_
  refine ev_goto (tgt := 15) dX12_bestScale_11 (by decide) ?_
  refine ev_put fX12_43 dX12_bestScale_15 rfl rfl (by decide) sh115 rfl ?_
  refine ev_w (w' := wT w 1) rfl ?_
  refine ev_iconst dX12_bestScale_18 ic1 ?_
  refine ev_ist1 dX12_bestScale_19 (by decide) rfl ?_
  refine ev_iconst dX12_bestScale_20 ic2 ?_
  refine ev_ist2 dX12_bestScale_21 (by decide) rfl ?_
  have lp : ∀ (n9 j : Nat) , j + n9 = 10 → 2 ≤ j → Ev G 5 0 mX12_bestScale 22 [some (.ref 115), some (.int (nI (bst (awr S) (j - 1)))), some (.int (nI j))] [] (wT w 1) (zu_ G (.inl (some (.int (nI 0)))) (wT w 1)) := by
    intro n9
    induction n9 with
    | zero =>
      intro j  hi9 hj
      refine ev_iload_n dX12_bestScale_22 rfl ?_
      refine ev_bipush (v := nI 9) dX12_bestScale_23 (by decide) ?_
      refine ev_icmp_gt_t (tgt := 53) dX12_bestScale_25 (by decide) ((pk_lt' (by decide) (by omega)).mpr (by omega)) ?_
      refine ev_aload_n dX12_bestScale_53 rfl ?_
      refine ev_getI fX12_43 dX12_bestScale_54 (by decide) sh115 rfl ?_
      refine ev_top (y := nI 1) rfl ?_
      refine ev_if_le_f (tgt := 64) dX12_bestScale_57 (by decide) (by decide) ?_
      refine ev_iconst dX12_bestScale_60 ic0 ?_
      refine ev_goto (tgt := 65) dX12_bestScale_61 (by decide) ?_
      exact ev_iret dX12_bestScale_65 rfl rfl rfl rfl
    | succ n9 ih =>
      intro j  hi9 hj
      refine ev_iload_n dX12_bestScale_22 rfl ?_
      refine ev_bipush (v := nI 9) dX12_bestScale_23 (by decide) ?_
      refine ev_icmp_gt_f (tgt := 53) dX12_bestScale_25 (by decide) (nI_gtf (by omega) (by decide)) ?_
      refine ev_aload_n dX12_bestScale_28 rfl ?_
      refine ev_iload_n dX12_bestScale_29 rfl ?_
      have hb2 := bst_le (awr S) (j - 1) (by omega)
      have hl1 := awr_le hT.2 j (by omega)
      have hl2 := awr_le hT.2 (bst (awr S) (j - 1)) (by omega)
      have hs := bst_s (awr S) (n := j - 1) (by omega)
      rw [show j - 1 + 1 = j by omega] at hs
      refine ev_callV kX12_204 co115 (qX12_wrongBy hT (by omega)) dX12_bestScale_30 rfl (by decide) (by decide) rfl ?_
      refine ev_aload_n dX12_bestScale_33 rfl ?_
      refine ev_iload_n dX12_bestScale_34 rfl ?_
      refine ev_callV kX12_204 co115 (qX12_wrongBy hT (by omega)) dX12_bestScale_35 rfl (by decide) (by decide) rfl ?_
      refine ev_icmp_ge (tgt := 45) dX12_bestScale_38 (by decide) (fun hc38 => ?_) (fun hc38 => ?_)
      · have e38 : ¬ awr S j < awr S (bst (awr S) (j - 1)) := fun q => nI_ge q (by omega) hc38
        rw [if_neg e38] at hs
        refine ev_iload_n dX12_bestScale_45 rfl ?_
        refine ev_ist1 dX12_bestScale_46 (by decide) rfl ?_
        refine ev_iinc2 dX12_bestScale_47 (nI_inc _) (by decide) rfl ?_
        refine ev_goto (tgt := 22) dX12_bestScale_50 (by decide) ?_
        have q := ih (j + 1) (by omega) (by omega)
        rw [show j + 1 - 1 = j by omega, hs] at q
        exact q
      · have e38 : awr S j < awr S (bst (awr S) (j - 1)) := Nat.lt_of_not_le (fun q => hc38 (nI_le q (by omega)))
        rw [if_pos e38] at hs
        refine ev_iload_n dX12_bestScale_41 rfl ?_
        refine ev_goto (tgt := 46) dX12_bestScale_42 (by decide) ?_
        refine ev_ist1 dX12_bestScale_46 (by decide) rfl ?_
        refine ev_iinc2 dX12_bestScale_47 (nI_inc _) (by decide) rfl ?_
        refine ev_goto (tgt := 22) dX12_bestScale_50 (by decide) ?_
        have q := ih (j + 1) (by omega) (by omega)
        rw [show j + 1 - 1 = j by omega, hs] at q
        exact q
  exact lp 8 2 rfl (Nat.le_refl _)
set_option maxRecDepth 4000 in
theorem gX12_bestScale_y {G : GX} {w : WS} {S : ST} (hS : mR S w) (hn : nR S ≠ 0) : Big G 5 0 mX12_bestScale [.ref 115] w (.inl (some (.int (nI (bst (awr S) 9))))) (wT w 0) := by
  refine big_of (by decide +kernel) (Nat.le_of_ble_eq_true rfl) ?_
  have hT := mT (k := 0) hS
  obtain ⟨⟨q0, q1, ⟨m0, m1, m2, m3, m4⟩, qr, qc, qv, qd⟩, hk1, hk2, hk3, hk4⟩ := hT
  have hT := mT (k := 0) hS
  have h4 := hk2.1
  have h5 := hk3.1
  have hS0 := hS
  show Ev G 5 0 mX12_bestScale 0 [some (.ref 115), none, none] [] w _
  refine ev_aload_n dX12_bestScale_0 rfl ?_
  refine ev_aload_n dX12_bestScale_1 rfl ?_
  refine ev_getR fX12_9 dX12_bestScale_2 (by decide) sh115 rfl ?_
  refine ev_iconst dX12_bestScale_5 ic0 ?_
  refine ev_iaload dX12_bestScale_6 rfl (by omega) (by decide) sh116 ?_
  refine ev_top q0 ?_
  refine ev_if_ne_t (tgt := 14) dX12_bestScale_7 (by decide) (fun q => hn (nI_inj (by omega) (by decide) q)) ?_
  refine ev_iconst dX12_bestScale_14 ic0 ?_
  refine ev_put fX12_43 dX12_bestScale_15 rfl rfl (by decide) sh115 rfl ?_
  refine ev_w (w' := wT w 0) rfl ?_
  refine ev_iconst dX12_bestScale_18 ic1 ?_
  refine ev_ist1 dX12_bestScale_19 (by decide) rfl ?_
  refine ev_iconst dX12_bestScale_20 ic2 ?_
  refine ev_ist2 dX12_bestScale_21 (by decide) rfl ?_
  have lp : ∀ (n9 j : Nat) , j + n9 = 10 → 2 ≤ j → Ev G 5 0 mX12_bestScale 22 [some (.ref 115), some (.int (nI (bst (awr S) (j - 1)))), some (.int (nI j))] [] (wT w 0) (zu_ G (.inl (some (.int (nI (bst (awr S) 9))))) (wT w 0)) := by
    intro n9
    induction n9 with
    | zero =>
      intro j  hi9 hj
      refine ev_iload_n dX12_bestScale_22 rfl ?_
      refine ev_bipush (v := nI 9) dX12_bestScale_23 (by decide) ?_
      refine ev_icmp_gt_t (tgt := 53) dX12_bestScale_25 (by decide) ((pk_lt' (by decide) (by omega)).mpr (by omega)) ?_
      refine ev_aload_n dX12_bestScale_53 rfl ?_
      refine ev_getI fX12_43 dX12_bestScale_54 (by decide) sh115 rfl ?_
      refine ev_top (y := nI 0) rfl ?_
      refine ev_if_le_t (tgt := 64) dX12_bestScale_57 (by decide) (by decide) ?_
      refine ev_iload_n dX12_bestScale_64 rfl ?_
      exact ev_iret dX12_bestScale_65 rfl rfl (by rw [show j - 1 = 9 by omega]) rfl
    | succ n9 ih =>
      intro j  hi9 hj
      refine ev_iload_n dX12_bestScale_22 rfl ?_
      refine ev_bipush (v := nI 9) dX12_bestScale_23 (by decide) ?_
      refine ev_icmp_gt_f (tgt := 53) dX12_bestScale_25 (by decide) (nI_gtf (by omega) (by decide)) ?_
      refine ev_aload_n dX12_bestScale_28 rfl ?_
      refine ev_iload_n dX12_bestScale_29 rfl ?_
      have hb2 := bst_le (awr S) (j - 1) (by omega)
      have hl1 := awr_le hT.2 j (by omega)
      have hl2 := awr_le hT.2 (bst (awr S) (j - 1)) (by omega)
      have hs := bst_s (awr S) (n := j - 1) (by omega)
      rw [show j - 1 + 1 = j by omega] at hs
      refine ev_callV kX12_204 co115 (qX12_wrongBy hT (by omega)) dX12_bestScale_30 rfl (by decide) (by decide) rfl ?_
      refine ev_aload_n dX12_bestScale_33 rfl ?_
      refine ev_iload_n dX12_bestScale_34 rfl ?_
      refine ev_callV kX12_204 co115 (qX12_wrongBy hT (by omega)) dX12_bestScale_35 rfl (by decide) (by decide) rfl ?_
      refine ev_icmp_ge (tgt := 45) dX12_bestScale_38 (by decide) (fun hc38 => ?_) (fun hc38 => ?_)
      · have e38 : ¬ awr S j < awr S (bst (awr S) (j - 1)) := fun q => nI_ge q (by omega) hc38
        rw [if_neg e38] at hs
        refine ev_iload_n dX12_bestScale_45 rfl ?_
        refine ev_ist1 dX12_bestScale_46 (by decide) rfl ?_
        refine ev_iinc2 dX12_bestScale_47 (nI_inc _) (by decide) rfl ?_
        refine ev_goto (tgt := 22) dX12_bestScale_50 (by decide) ?_
        have q := ih (j + 1) (by omega) (by omega)
        rw [show j + 1 - 1 = j by omega, hs] at q
        exact q
      · have e38 : awr S j < awr S (bst (awr S) (j - 1)) := Nat.lt_of_not_le (fun q => hc38 (nI_le q (by omega)))
        rw [if_pos e38] at hs
        refine ev_iload_n dX12_bestScale_41 rfl ?_
        refine ev_goto (tgt := 46) dX12_bestScale_42 (by decide) ?_
        refine ev_ist1 dX12_bestScale_46 (by decide) rfl ?_
        refine ev_iinc2 dX12_bestScale_47 (nI_inc _) (by decide) rfl ?_
        refine ev_goto (tgt := 22) dX12_bestScale_50 (by decide) ?_
        have q := ih (j + 1) (by omega) (by omega)
        rw [show j + 1 - 1 = j by omega, hs] at q
        exact q
  exact lp 8 2 rfl (Nat.le_refl _)
theorem gX12_bestScale {G : GX} {w : WS} {S : ST} (hS : mR S w)  : ∃ v, ((qBs S).1 = 0 → v = (qBs S).2) ∧ Big G 5 0 mX12_bestScale [.ref 115] w (.inl (some (.int v))) (wT w (qBs S).1) := by
  unfold qBs
  by_cases e : nR S = 0
  · rw [if_pos e]; exact ⟨_, fun q => (by simp at q), gX12_bestScale_n hS e⟩
  · rw [if_neg e]; exact ⟨_, fun _ => rfl, gX12_bestScale_y hS e⟩
set_option maxRecDepth 4000 in
theorem gX12_ranked_n {G : GX} {w : WS} {S : ST} (hS : mR S w) {x : Int32} (hx : out_ 4 x) : Big G 8 0 mX12_ranked [.ref 115, .int x] w (.inl (some (.int (nI 0)))) (wT w 1) := by
  refine big_of (by decide +kernel) (Nat.le_of_ble_eq_true rfl) ?_
  have hT := mT (k := 1) hS
  obtain ⟨⟨q0, q1, ⟨m0, m1, m2, m3, m4⟩, qr, qc, qv, qd⟩, hk1, hk2, hk3, hk4⟩ := hT
  have hT := mT (k := 1) hS
  have h4 := hk2.1
  have h5 := hk3.1
  have hS0 := hS
  show Ev G 8 0 mX12_ranked 0 [some (.ref 115), some (.int x)] [] w _
  refine ev_aload_n dX12_ranked_0 rfl ?_
  refine ev_iload_n dX12_ranked_1 rfl ?_
  refine ev_callS kX12_113 (qX12_isRealm_n hx) dX12_ranked_2 rfl (by decide) (by decide) rfl ?_
  refine ev_if_eq_t (tgt := 12) dX12_ranked_5 (by decide) rfl ?_
  refine ev_iconst dX12_ranked_12 ic1 ?_
  refine ev_put fX12_43 dX12_ranked_13 rfl rfl (by decide) sh115 rfl ?_
  refine ev_aload_n dX12_ranked_16 rfl ?_
  refine ev_getI fX12_43 dX12_ranked_17 (by decide) sh115 rfl ?_
  refine ev_top (y := nI 1) rfl ?_
  refine ev_if_le_f (tgt := 27) dX12_ranked_20 (by decide) (by decide) ?_
  refine ev_iconst dX12_ranked_23 ic0 ?_
  refine ev_goto (tgt := 34) dX12_ranked_24 (by decide) ?_
  exact ev_iret dX12_ranked_34 rfl rfl rfl rfl
set_option maxRecDepth 4000 in
theorem gX12_ranked_y {G : GX} {w : WS} {S : ST} (hS : mR S w) {r : Nat} (hcn : cnS S) (hr : r < 4) : Big G 8 0 mX12_ranked [.ref 115, .int (nI r)] w (.inl (some (.int (nI (fl_k (fR S) (sC S) 4 r 4))))) (wT w 0) := by
  refine big_of (by decide +kernel) (Nat.le_of_ble_eq_true rfl) ?_
  have hT := mT (k := 0) hS
  obtain ⟨⟨q0, q1, ⟨m0, m1, m2, m3, m4⟩, qr, qc, qv, qd⟩, hk1, hk2, hk3, hk4⟩ := hT
  have hT := mT (k := 0) hS
  have h4 := hk2.1
  have h5 := hk3.1
  have hS0 := hS
  show Ev G 8 0 mX12_ranked 0 [some (.ref 115), some (.int (nI r))] [] w _
  refine ev_aload_n dX12_ranked_0 rfl ?_
  refine ev_iload_n dX12_ranked_1 rfl ?_
  refine ev_callS kX12_113 (qX12_isRealm_y hr) dX12_ranked_2 rfl (by decide) (by decide) rfl ?_
  refine ev_if_eq_f (tgt := 12) dX12_ranked_5 (by decide) (by decide) ?_
  refine ev_iconst dX12_ranked_8 ic0 ?_
  refine ev_goto (tgt := 13) dX12_ranked_9 (by decide) ?_
  refine ev_put fX12_43 dX12_ranked_13 rfl rfl (by decide) sh115 rfl ?_
  refine ev_w (w' := wT w 0) rfl ?_
  refine ev_aload_n dX12_ranked_16 rfl ?_
  refine ev_getI fX12_43 dX12_ranked_17 (by decide) sh115 rfl ?_
  refine ev_top (y := nI 0) rfl ?_
  refine ev_if_le_t (tgt := 27) dX12_ranked_20 (by decide) (by decide) ?_
  refine ev_aload_n dX12_ranked_27 rfl ?_
  refine ev_iload_n dX12_ranked_28 rfl ?_
  refine ev_iconst dX12_ranked_29 ic4 ?_
  refine ev_iconst dX12_ranked_30 ic0 ?_
  refine ev_callV kX12_211 co115 (qX12_placed_false hT hcn hr) dX12_ranked_31 rfl (by decide) (by decide) rfl ?_
  exact ev_iret dX12_ranked_34 rfl rfl rfl rfl
theorem gX12_ranked {G : GX} {w : WS} {S : ST} (hS : mR S w) (hcn : cnS S) (x : Int32) : ∃ v, ((qRk S x).1 = 0 → v = (qRk S x).2) ∧ Big G 8 0 mX12_ranked [.ref 115, .int x] w (.inl (some (.int v))) (wT w (qRk S x).1) := by
  unfold qRk
  rcases ixN_or 4 (by decide) x with ⟨h1, e1⟩ | ⟨r, h1, rfl, e1⟩
  · rw [plc_n (by decide) h1]; exact ⟨_, fun q => (by simp at q), gX12_ranked_n hS h1⟩
  · rw [(plc_y (by decide) h1).1]; exact ⟨_, fun _ => rfl, gX12_ranked_y hS hcn h1⟩
set_option maxRecDepth 4000 in
theorem gX12_heaviest_n {G : GX} {w : WS} {S : ST} (hS : mR S w) {x : Int32} (hx : out_ (nR S) x) : Big G 8 0 mX12_heaviest [.ref 115, .int x] w (.inl (some (.int (nI 0)))) (wT w 1) := by
  refine big_of (by decide +kernel) (Nat.le_of_ble_eq_true rfl) ?_
  have hT := mT (k := 1) hS
  obtain ⟨⟨q0, q1, ⟨m0, m1, m2, m3, m4⟩, qr, qc, qv, qd⟩, hk1, hk2, hk3, hk4⟩ := hT
  have hT := mT (k := 1) hS
  have h4 := hk2.1
  have h5 := hk3.1
  have hS0 := hS
  show Ev G 8 0 mX12_heaviest 0 [some (.ref 115), some (.int x)] [] w _
  refine ev_aload_n dX12_heaviest_0 rfl ?_
  refine ev_aload_n dX12_heaviest_1 rfl ?_
  refine ev_iload_n dX12_heaviest_2 rfl ?_
  refine ev_callV kX12_141 co115 (qX12_isRiver_n hS0 hx) dX12_heaviest_3 rfl (by decide) (by decide) rfl ?_
  refine ev_if_eq_t (tgt := 13) dX12_heaviest_6 (by decide) rfl ?_
  refine ev_iconst dX12_heaviest_13 ic1 ?_
  refine ev_put fX12_43 dX12_heaviest_14 rfl rfl (by decide) sh115 rfl ?_
  refine ev_aload_n dX12_heaviest_17 rfl ?_
  refine ev_getI fX12_43 dX12_heaviest_18 (by decide) sh115 rfl ?_
  refine ev_top (y := nI 1) rfl ?_
  refine ev_if_le_f (tgt := 28) dX12_heaviest_21 (by decide) (by decide) ?_
  refine ev_iconst dX12_heaviest_24 ic0 ?_
  refine ev_goto (tgt := 40) dX12_heaviest_25 (by decide) ?_
  exact ev_iret dX12_heaviest_40 rfl rfl rfl rfl
set_option maxRecDepth 4000 in
theorem gX12_heaviest_y {G : GX} {w : WS} {S : ST} (hS : mR S w) {r : Nat} (hr : r < nR S) : Big G 8 0 mX12_heaviest [.ref 115, .int (nI r)] w (.inl (some (.int (nI (fl_k (fV S) (gV S) (nR S) r (nR S)))))) (wT w 0) := by
  refine big_of (by decide +kernel) (Nat.le_of_ble_eq_true rfl) ?_
  have hT := mT (k := 0) hS
  obtain ⟨⟨q0, q1, ⟨m0, m1, m2, m3, m4⟩, qr, qc, qv, qd⟩, hk1, hk2, hk3, hk4⟩ := hT
  have hT := mT (k := 0) hS
  have h4 := hk2.1
  have h5 := hk3.1
  have hS0 := hS
  show Ev G 8 0 mX12_heaviest 0 [some (.ref 115), some (.int (nI r))] [] w _
  refine ev_aload_n dX12_heaviest_0 rfl ?_
  refine ev_aload_n dX12_heaviest_1 rfl ?_
  refine ev_iload_n dX12_heaviest_2 rfl ?_
  refine ev_callV kX12_141 co115 (qX12_isRiver_y hS0 hr) dX12_heaviest_3 rfl (by decide) (by decide) rfl ?_
  refine ev_if_eq_f (tgt := 13) dX12_heaviest_6 (by decide) (by decide) ?_
  refine ev_iconst dX12_heaviest_9 ic0 ?_
  refine ev_goto (tgt := 14) dX12_heaviest_10 (by decide) ?_
  refine ev_put fX12_43 dX12_heaviest_14 rfl rfl (by decide) sh115 rfl ?_
  refine ev_w (w' := wT w 0) rfl ?_
  refine ev_aload_n dX12_heaviest_17 rfl ?_
  refine ev_getI fX12_43 dX12_heaviest_18 (by decide) sh115 rfl ?_
  refine ev_top (y := nI 0) rfl ?_
  refine ev_if_le_t (tgt := 28) dX12_heaviest_21 (by decide) (by decide) ?_
  refine ev_aload_n dX12_heaviest_28 rfl ?_
  refine ev_iload_n dX12_heaviest_29 rfl ?_
  refine ev_aload_n dX12_heaviest_30 rfl ?_
  refine ev_getR fX12_9 dX12_heaviest_31 (by decide) sh115 rfl ?_
  refine ev_iconst dX12_heaviest_34 ic0 ?_
  refine ev_iaload dX12_heaviest_35 rfl (by omega) (by decide) sh116 ?_
  refine ev_top q0 ?_
  refine ev_iconst dX12_heaviest_36 ic1 ?_
  refine ev_callV kX12_211 co115 (qX12_placed_true hT hr) dX12_heaviest_37 rfl (by decide) (by decide) rfl ?_
  exact ev_iret dX12_heaviest_40 rfl rfl rfl rfl
theorem gX12_heaviest {G : GX} {w : WS} {S : ST} (hS : mR S w) (x : Int32) : ∃ v, ((qHv S x).1 = 0 → v = (qHv S x).2) ∧ Big G 8 0 mX12_heaviest [.ref 115, .int x] w (.inl (some (.int v))) (wT w (qHv S x).1) := by
  unfold qHv
  have h4 := hS.2.2.1.1
  rcases ixN_or (nR S) (by omega) x with ⟨h1, e1⟩ | ⟨r, h1, rfl, e1⟩
  · rw [plc_n h4 h1]; exact ⟨_, fun q => (by simp at q), gX12_heaviest_n hS h1⟩
  · rw [(plc_y h4 h1).1]; exact ⟨_, fun _ => rfl, gX12_heaviest_y hS h1⟩
set_option maxRecDepth 4000 in
theorem gX12_isTrue {G : GX} {w : WS} : Big G 1 0 mX12_isTrue [.ref 115] w (.inl (some (.int (nI 1)))) (wT w 0) := by
  refine big_of (by decide +kernel) (Nat.le_of_ble_eq_true rfl) ?_
  show Ev G 1 0 mX12_isTrue 0 [some (.ref 115)] [] w _
  refine ev_aload_n dX12_isTrue_0 rfl ?_
  refine ev_iconst dX12_isTrue_1 ic0 ?_
  refine ev_put fX12_43 dX12_isTrue_2 rfl rfl (by decide) sh115 rfl ?_
  refine ev_iconst dX12_isTrue_5 ic1 ?_
  exact ev_iret dX12_isTrue_6 rfl rfl rfl rfl
def pPt (r : Nat × Int32) (w : WS) : OT → WS → Prop := fun o w2 => ∃ v, o = .inl (some (.int v)) ∧ (r.1 = 0 → v = r.2) ∧ frG [(121, 121)] (wT w r.1) w2
set_option maxRecDepth 4000 in
theorem gX12_parts_n {G : GX} {w : WS} {S : ST} (hS : mR S w) {x0 : Int32} (hx : out_ 4 x0) : ∃ o w2, (pPt (1, 0) w o w2) ∧ Big G 68 0 mX12_parts [.ref 115, .int x0] w o w2 := by
  refine bx_of (P := pPt (1, 0) w) (by decide +kernel) (Nat.le_of_ble_eq_true rfl) ?_
  show Ex G 68 0 mX12_parts 0 [some (.ref 115), some (.int x0), none, none] [] w _
  refine ex_s (fun _ => ev_aload_n dX12_parts_0 rfl) ?_
  refine ex_s (fun _ => ev_iload_n dX12_parts_1 rfl) ?_
  refine ex_s (fun _ => ev_callS kX12_113 (qX12_isRealm_n hx) dX12_parts_2 rfl (by decide) (by decide) rfl) ?_
  refine ex_s (fun _ => ev_if_eq_t (tgt := 12) dX12_parts_5 (by decide) rfl) ?_
  refine ex_s (fun _ => ev_iconst dX12_parts_12 ic1) ?_
  refine ex_s (fun _ => ev_put fX12_43 dX12_parts_13 rfl rfl (by decide) sh115 rfl) ?_
  refine ex_s (fun _ => ev_w (w' := wT w 1) rfl) ?_
  refine ex_s (fun _ => ev_iconst dX12_parts_16 ic0) ?_
  refine ex_s (fun _ => ev_ist2 dX12_parts_17 (by decide) rfl) ?_
  refine ex_s (fun _ => ev_iconst dX12_parts_18 ic0) ?_
  refine ex_s (fun _ => ev_ist3 dX12_parts_19 (by decide) rfl) ?_
  have lp0 : ∀ (n9 j : Nat) (x : WS), j + n9 = 64 → (∀ y, y < j → x.1 121 y = 0) → frG [(121, 121)] (wT w 1) x → Ex G 68 0 mX12_parts 20 [some (.ref 115), some (.int x0), some (.int (nI 0)), some (.int (nI j))] [] x (pPt (1, 0) w) := by
    intro n9
    induction n9 with
    | zero =>
      intro j x hi9 hz hf
      refine ex_s (fun _ => ev_iload_n dX12_parts_20 rfl) ?_
      refine ex_s (fun _ => ev_bipush (v := nI 64) dX12_parts_21 (by decide)) ?_
      refine ex_s (fun _ => ev_icmp_ge_t (tgt := 39) dX12_parts_23 (by decide) (nI_le (by omega) (by omega))) ?_
      refine ex_s (fun _ => ev_iconst dX12_parts_39 ic0) ?_
      refine ex_s (fun _ => ev_ist3 dX12_parts_40 (by decide) rfl) ?_
      refine ex_s (fun _ => ev_iload_n dX12_parts_41 rfl) ?_
      refine ex_s (fun _ => ev_bipush (v := nI 64) dX12_parts_42 (by decide)) ?_
      refine ex_s (fun _ => ev_icmp_ge_f (tgt := 86) dX12_parts_44 (by decide) (nI_ge (by decide) (by decide))) ?_
      refine ex_s (fun _ => ev_aload_n dX12_parts_47 rfl) ?_
      refine ex_s (fun _ => ev_getI fX12_43 dX12_parts_48 (by decide) sh115 rfl) ?_
      refine ex_s (fun _ => ev_top ((congrFun (frG_at hf (by decide) : x.1 115 = (wT w 1).1 115) 6).trans rfl : _ = nI 1)) ?_
      refine ex_s (fun _ => ev_if_ne_t (tgt := 86) dX12_parts_51 (by decide) (by decide)) ?_
      refine ex_s (fun _ => ev_iload_n dX12_parts_86 rfl) ?_
      exact ⟨_, _, (by exact ⟨_, rfl, fun q => absurd q (by decide), hf⟩), ev_iret dX12_parts_87 rfl rfl rfl rfl⟩
    | succ n9 ih =>
      intro j x hi9 hz hf
      refine ex_s (fun _ => ev_iload_n dX12_parts_20 rfl) ?_
      refine ex_s (fun _ => ev_bipush (v := nI 64) dX12_parts_21 (by decide)) ?_
      refine ex_s (fun _ => ev_icmp_ge_f (tgt := 39) dX12_parts_23 (by decide) (nI_ge (by omega) (by decide))) ?_
      refine ex_s (fun _ => ev_aload_n dX12_parts_26 rfl) ?_
      refine ex_s (fun _ => ev_getR fX12_25 dX12_parts_27 (by decide) sh115 rfl) ?_
      refine ex_s (fun _ => ev_iload_n dX12_parts_30 rfl) ?_
      refine ex_s (fun _ => ev_iconst dX12_parts_31 ic0) ?_
      refine ex_s (fun _ => ev_bastore dX12_parts_32 rfl (by omega) (bz (Or.inl rfl) : vp_nar .boolean (nI 0) = 0) (by decide) sh121) ?_
      refine ex_s (fun _ => ev_iinc3 dX12_parts_33 (nI_inc _) (by decide) rfl) ?_
      refine ex_s (fun _ => ev_goto (tgt := 20) dX12_parts_36 (by decide)) ?_
      exact ih (j + 1) _ (by omega) (fun y hy => by
        show upd (x.1 121) j 0 y = 0
        unfold upd
        by_cases e : y = j
        · rw [if_pos e]
        · rw [if_neg e]; exact hz y (by omega)) (frG_cs hf (by decide) _)
  exact lp0 64 0 _ rfl (fun y hy => absurd hy (Nat.not_lt_zero _)) frG_rf
set_option maxRecDepth 4000 in
theorem gX12_parts_y {G : GX} {w : WS} {S : ST} (hS : mR S w) {r : Nat} (hr : r < 4) : ∃ o w2, (pPt (0, nI (ccS S (nI r))) w o w2) ∧ Big G 68 0 mX12_parts [.ref 115, .int (nI r)] w o w2 := by
  refine bx_of (P := pPt (0, nI (ccS S (nI r))) w) (by decide +kernel) (Nat.le_of_ble_eq_true rfl) ?_
  show Ex G 68 0 mX12_parts 0 [some (.ref 115), some (.int (nI r)), none, none] [] w _
  refine ex_s (fun _ => ev_aload_n dX12_parts_0 rfl) ?_
  refine ex_s (fun _ => ev_iload_n dX12_parts_1 rfl) ?_
  refine ex_s (fun _ => ev_callS kX12_113 (qX12_isRealm_y hr) dX12_parts_2 rfl (by decide) (by decide) rfl) ?_
  refine ex_s (fun _ => ev_if_eq_f (tgt := 12) dX12_parts_5 (by decide) (by decide)) ?_
  refine ex_s (fun _ => ev_iconst dX12_parts_8 ic0) ?_
  refine ex_s (fun _ => ev_goto (tgt := 13) dX12_parts_9 (by decide)) ?_
  refine ex_s (fun _ => ev_put fX12_43 dX12_parts_13 rfl rfl (by decide) sh115 rfl) ?_
  refine ex_s (fun _ => ev_w (w' := wT w 0) rfl) ?_
  refine ex_s (fun _ => ev_iconst dX12_parts_16 ic0) ?_
  refine ex_s (fun _ => ev_ist2 dX12_parts_17 (by decide) rfl) ?_
  refine ex_s (fun _ => ev_iconst dX12_parts_18 ic0) ?_
  refine ex_s (fun _ => ev_ist3 dX12_parts_19 (by decide) rfl) ?_
  have lp0 : ∀ (n9 j : Nat) (x : WS), j + n9 = 64 → (∀ y, y < j → x.1 121 y = 0) → frG [(121, 121)] (wT w 0) x → Ex G 68 0 mX12_parts 20 [some (.ref 115), some (.int (nI r)), some (.int (nI 0)), some (.int (nI j))] [] x (pPt (0, nI (ccS S (nI r))) w) := by
    intro n9
    induction n9 with
    | zero =>
      intro j x hi9 hz hf
      refine ex_s (fun _ => ev_iload_n dX12_parts_20 rfl) ?_
      refine ex_s (fun _ => ev_bipush (v := nI 64) dX12_parts_21 (by decide)) ?_
      refine ex_s (fun _ => ev_icmp_ge_t (tgt := 39) dX12_parts_23 (by decide) (nI_le (by omega) (by omega))) ?_
      refine ex_s (fun _ => ev_iconst dX12_parts_39 ic0) ?_
      refine ex_s (fun _ => ev_ist3 dX12_parts_40 (by decide) rfl) ?_
      have lp : ∀ (n9 k : Nat) (x : WS), k + n9 = 64 → (∀ y, y < 64 → x.1 121 y = 0 ∨ x.1 121 y = 1) → (∀ y, y < 64 → (x.1 121 y ≠ 0 ↔ vis S (nI r) k y)) → frG [(121, 121)] (wT w 0) x → Ex G 68 0 mX12_parts 41 [some (.ref 115), some (.int (nI r)), some (.int (nI (ct (mrb S (nI r)) k))), some (.int (nI k))] [] x (pPt (0, nI (ccS S (nI r))) w) := by
        intro n9
        induction n9 with
        | zero =>
          intro k x hi9 h01 hv hf
          refine ex_s (fun _ => ev_iload_n dX12_parts_41 rfl) ?_
          refine ex_s (fun _ => ev_bipush (v := nI 64) dX12_parts_42 (by decide)) ?_
          refine ex_s (fun _ => ev_icmp_ge_t (tgt := 86) dX12_parts_44 (by decide) (nI_le (by omega) (by omega))) ?_
          refine ex_s (fun _ => ev_iload_n dX12_parts_86 rfl) ?_
          exact ⟨_, _, (by exact ⟨_, rfl, fun _ => by rw [show ccS S (nI r) = ct (mrb S (nI r)) k by unfold ccS; rw [show k = 64 by omega]], hf⟩), ev_iret dX12_parts_87 rfl rfl rfl rfl⟩
        | succ n9 ih =>
          intro k x hi9 h01 hv hf
          refine ex_s (fun _ => ev_iload_n dX12_parts_41 rfl) ?_
          refine ex_s (fun _ => ev_bipush (v := nI 64) dX12_parts_42 (by decide)) ?_
          refine ex_s (fun _ => ev_icmp_ge_f (tgt := 86) dX12_parts_44 (by decide) (nI_ge (by omega) (by decide))) ?_
          refine ex_s (fun _ => ev_aload_n dX12_parts_47 rfl) ?_
          have hSx : mR S x := mRe (mT (k := 0) hS) (frG_at hf (by decide))
          refine ex_s (fun _ => ev_getI fX12_43 dX12_parts_48 (by decide) sh115 rfl) ?_
          refine ex_s (fun _ => ev_top ((congrFun (frG_at hf (by decide) : x.1 115 = (wT w 0).1 115) 6).trans rfl : _ = nI 0)) ?_
          refine ex_s (fun _ => ev_if_ne_f (tgt := 86) dX12_parts_51 (by decide) rfl) ?_
          refine ex_s (fun _ => ev_aload_n dX12_parts_54 rfl) ?_
          refine ex_s (fun _ => ev_iload_n dX12_parts_55 rfl) ?_
          refine ex_s (fun _ => ev_callV kX12_67 co115 (qX12_at hSx (by omega)) dX12_parts_56 rfl (by decide) (by decide) rfl) ?_
          refine ex_s (fun _ => ev_iload_n dX12_parts_59 rfl) ?_
          refine ex_bn (fun _ => ev_icmp_ne (tgt := 80) dX12_parts_60 (by decide)) (fun hc60 => ?_) (fun hc60 => ?_)
          · have hsk : sO S k ≠ nI r ∨ vis S (nI r) k k := Or.inl hc60
            rw [← vis_ct2 hsk]
            refine ex_s (fun _ => ev_iinc3 dX12_parts_80 (nI_inc _) (by decide) rfl) ?_
            refine ex_s (fun _ => ev_goto (tgt := 41) dX12_parts_83 (by decide)) ?_
            refine ih (k + 1) x (by omega) h01 (fun y hy => (hv y hy).trans (vis_s2 hsk).symm) hf
          · refine ex_s (fun _ => ev_aload_n dX12_parts_63 rfl) ?_
            refine ex_s (fun _ => ev_getR fX12_25 dX12_parts_64 (by decide) sh115 rfl) ?_
            refine ex_s (fun _ => ev_iload_n dX12_parts_67 rfl) ?_
            refine ex_s (fun _ => ev_baload dX12_parts_68 rfl (by omega) (by decide) sh121) ?_
            refine ex_bn (fun _ => ev_if_ne (tgt := 80) dX12_parts_69 (by decide)) (fun hc69 => ?_) (fun hc69 => ?_)
            · have hsk : sO S k ≠ nI r ∨ vis S (nI r) k k := Or.inr ((hv k (by omega)).mp hc69)
              rw [← vis_ct2 hsk]
              refine ex_s (fun _ => ev_iinc3 dX12_parts_80 (nI_inc _) (by decide) rfl) ?_
              refine ex_s (fun _ => ev_goto (tgt := 41) dX12_parts_83 (by decide)) ?_
              refine ih (k + 1) x (by omega) h01 (fun y hy => (hv y hy).trans (vis_s2 hsk).symm) hf
            · have hnv : ¬ vis S (nI r) k k := fun q => ((hv k (by omega)).mpr q) hc69
              refine ex_s (fun _ => ev_aload_n dX12_parts_72 rfl) ?_
              refine ex_s (fun _ => ev_iload_n dX12_parts_73 rfl) ?_
              obtain ⟨o3, w3, hp3, hB3⟩ := qX12_goes (G := G) 64 hSx h01 (c := k) (by omega) hc69 (ct_le _ _)
              obtain ⟨rfl, j1, j2, j3, j4, j5, j6⟩ := id hp3
              refine ex_s (fun _ => ev_callV kX12_183 co115 hB3 dX12_parts_74 rfl (by decide) (by decide) rfl) ?_
              refine ex_s (fun _ => ev_iinc2 dX12_parts_77 (nI_inc _) (by decide) rfl) ?_
              rw [← vis_ct1 hc60 hnv]
              refine ex_s (fun _ => ev_iinc3 dX12_parts_80 (nI_inc _) (by decide) rfl) ?_
              refine ex_s (fun _ => ev_goto (tgt := 41) dX12_parts_83 (by decide)) ?_
              exact ih (k + 1) w3 (by omega) j2 (go_vis (by omega) hc60 hv hp3) (frG_tr hf j1)
      exact lp 64 0 x rfl (fun y hy => Or.inl (hz y (by omega))) (fun y hy => ⟨fun q => absurd (hz y (by omega)) q, fun q => by obtain ⟨c, h1, -⟩ := q; exact absurd h1 (Nat.not_lt_zero _)⟩) hf
    | succ n9 ih =>
      intro j x hi9 hz hf
      refine ex_s (fun _ => ev_iload_n dX12_parts_20 rfl) ?_
      refine ex_s (fun _ => ev_bipush (v := nI 64) dX12_parts_21 (by decide)) ?_
      refine ex_s (fun _ => ev_icmp_ge_f (tgt := 39) dX12_parts_23 (by decide) (nI_ge (by omega) (by decide))) ?_
      refine ex_s (fun _ => ev_aload_n dX12_parts_26 rfl) ?_
      refine ex_s (fun _ => ev_getR fX12_25 dX12_parts_27 (by decide) sh115 rfl) ?_
      refine ex_s (fun _ => ev_iload_n dX12_parts_30 rfl) ?_
      refine ex_s (fun _ => ev_iconst dX12_parts_31 ic0) ?_
      refine ex_s (fun _ => ev_bastore dX12_parts_32 rfl (by omega) (bz (Or.inl rfl) : vp_nar .boolean (nI 0) = 0) (by decide) sh121) ?_
      refine ex_s (fun _ => ev_iinc3 dX12_parts_33 (nI_inc _) (by decide) rfl) ?_
      refine ex_s (fun _ => ev_goto (tgt := 20) dX12_parts_36 (by decide)) ?_
      exact ih (j + 1) _ (by omega) (fun y hy => by
        show upd (x.1 121) j 0 y = 0
        unfold upd
        by_cases e : y = j
        · rw [if_pos e]
        · rw [if_neg e]; exact hz y (by omega)) (frG_cs hf (by decide) _)
  exact lp0 64 0 _ rfl (fun y hy => absurd hy (Nat.not_lt_zero _)) frG_rf
theorem gX12_parts {G : GX} {w : WS} {S : ST} (hS : mR S w) (x : Int32) : ∃ o w2, pPt (qPa S x) w o w2 ∧ Big G 68 0 mX12_parts [.ref 115, .int x] w o w2 := by
  unfold qPa
  rcases ixN_or 4 (by decide) x with ⟨h1, e1⟩ | ⟨r, h1, rfl, e1⟩
  · rw [e1]; exact gX12_parts_n hS h1
  · rw [e1]; exact gX12_parts_y hS h1
theorem gX12_partsAgain {G : GX} {w : WS} {S : ST} (hS : mR S w) (x : Int32) : ∃ o w2, pPt (qPa S x) w o w2 ∧ Big G 69 0 mX12_partsAgain [.ref 115, .int x] w o w2 := by
  obtain ⟨o, w2, ⟨v, rfl, h1, h2⟩, hB⟩ := gX12_parts (G := G) hS x
  refine ⟨_, w2, ⟨v, rfl, h1, h2⟩, ?_⟩
  refine big_of (by decide +kernel) (Nat.le_of_ble_eq_true rfl) ?_
  show Ev G 69 0 mX12_partsAgain 0 [some (.ref 115), some (.int x)] [] w _
  refine ev_aload_n dX12_partsAgain_0 rfl ?_
  refine ev_iload_n dX12_partsAgain_1 rfl ?_
  refine ev_callV kX12_186 co115 hB dX12_partsAgain_2 rfl (by decide) (by decide) rfl ?_
  exact ev_iret dX12_partsAgain_5 rfl rfl rfl rfl
