/-! the range tests of the class -/
set_option maxRecDepth 4000 in
theorem qX11_isCell_y {G : GX} {w : WS} {k : Nat} (hk : k < 64) : Big G 1 0 mX11_isCell [.int (nI k)] w (.inl (some (.int (bI true)))) w := by
  refine big_of (by decide +kernel) (Nat.le_of_ble_eq_true rfl) ?_
  show Ev G 1 0 mX11_isCell 0 [some (.int (nI k))] [] w _
  refine ev_iload_n dX11_isCell_0 rfl ?_
  refine ev_if_lt_f (tgt := 14) dX11_isCell_1 (by decide) (nI_pos (by omega)) ?_
  refine ev_iload_n dX11_isCell_4 rfl ?_
  refine ev_bipush (v := nI 64) dX11_isCell_5 (by decide) ?_
  refine ev_icmp_ge_f (tgt := 14) dX11_isCell_7 (by decide) (nI_ge hk (by decide)) ?_
  refine ev_iconst dX11_isCell_10 ic1 ?_
  refine ev_goto (tgt := 15) dX11_isCell_11 (by decide) ?_
  exact ev_iret dX11_isCell_15 rfl (by decide) rfl rfl
set_option maxRecDepth 4000 in
theorem qX11_isCell_n {G : GX} {w : WS} {x : Int32} (hx : out_ 64 x) : Big G 1 0 mX11_isCell [.int x] w (.inl (some (.int (bI false)))) w := by
  refine big_of (by decide +kernel) (Nat.le_of_ble_eq_true rfl) ?_
  show Ev G 1 0 mX11_isCell 0 [some (.int x)] [] w _
  refine ev_iload_n dX11_isCell_0 rfl ?_
  refine ev_if_lt (tgt := 14) dX11_isCell_1 (by decide) (fun hc1 => ?_) (fun hc1 => ?_)
  · refine ev_iconst dX11_isCell_14 ic0 ?_
    exact ev_iret dX11_isCell_15 rfl (by decide) rfl rfl
  · refine ev_iload_n dX11_isCell_4 rfl ?_
    refine ev_bipush (v := nI 64) dX11_isCell_5 (by decide) ?_
    refine ev_icmp_ge (tgt := 14) dX11_isCell_7 (by decide) (fun hc7 => ?_) (fun hc7 => ?_)
    · refine ev_iconst dX11_isCell_14 ic0 ?_
      exact ev_iret dX11_isCell_15 rfl (by decide) rfl rfl
    · exact absurd hx (fun q => q.elim hc1 hc7)
set_option maxRecDepth 4000 in
theorem qX11_isRealm_y {G : GX} {w : WS} {k : Nat} (hk : k < 4) : Big G 1 0 mX11_isRealm [.int (nI k)] w (.inl (some (.int (bI true)))) w := by
  refine big_of (by decide +kernel) (Nat.le_of_ble_eq_true rfl) ?_
  show Ev G 1 0 mX11_isRealm 0 [some (.int (nI k))] [] w _
  refine ev_iload_n dX11_isRealm_0 rfl ?_
  refine ev_if_lt_f (tgt := 13) dX11_isRealm_1 (by decide) (nI_pos (by omega)) ?_
  refine ev_iload_n dX11_isRealm_4 rfl ?_
  refine ev_iconst dX11_isRealm_5 ic4 ?_
  refine ev_icmp_ge_f (tgt := 13) dX11_isRealm_6 (by decide) (nI_ge hk (by decide)) ?_
  refine ev_iconst dX11_isRealm_9 ic1 ?_
  refine ev_goto (tgt := 14) dX11_isRealm_10 (by decide) ?_
  exact ev_iret dX11_isRealm_14 rfl (by decide) rfl rfl
set_option maxRecDepth 4000 in
theorem qX11_isRealm_n {G : GX} {w : WS} {x : Int32} (hx : out_ 4 x) : Big G 1 0 mX11_isRealm [.int x] w (.inl (some (.int (bI false)))) w := by
  refine big_of (by decide +kernel) (Nat.le_of_ble_eq_true rfl) ?_
  show Ev G 1 0 mX11_isRealm 0 [some (.int x)] [] w _
  refine ev_iload_n dX11_isRealm_0 rfl ?_
  refine ev_if_lt (tgt := 13) dX11_isRealm_1 (by decide) (fun hc1 => ?_) (fun hc1 => ?_)
  · refine ev_iconst dX11_isRealm_13 ic0 ?_
    exact ev_iret dX11_isRealm_14 rfl (by decide) rfl rfl
  · refine ev_iload_n dX11_isRealm_4 rfl ?_
    refine ev_iconst dX11_isRealm_5 ic4 ?_
    refine ev_icmp_ge (tgt := 13) dX11_isRealm_6 (by decide) (fun hc6 => ?_) (fun hc6 => ?_)
    · refine ev_iconst dX11_isRealm_13 ic0 ?_
      exact ev_iret dX11_isRealm_14 rfl (by decide) rfl rfl
    · exact absurd hx (fun q => q.elim hc1 hc6)
