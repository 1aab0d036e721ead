/-! the reference: a command carried out -/
def pDs (S : ST) (q : Cmd) (w : WS) : OT → WS → Prop := fun o w2 => o = .inl none ∧ (thC S q = false → ∃ k, 1 ≤ k ∧ k < 10 ∧ w2 = wT w k) ∧ (thC S q = true → ∃ e o2, 1 ≤ e ∧ e < 10 ∧ pDo S q e w o2 w2)
theorem pDs_y {S : ST} {q : Cmd} {w w2 : WS} (ht : thC S q = true) {e : Nat} {o : OT} (h1 : 1 ≤ e) (h2 : e < 10) (hp : pDo S q e w o w2) : pDs S q w (.inl none) w2 := ⟨rfl, fun z => absurd (ht.symm.trans z) (by decide), fun _ => ⟨e, o, h1, h2, hp⟩⟩
theorem pDs_n {S : ST} {q : Cmd} {w : WS} (ht : thC S q = false) {k : Nat} (h1 : 1 ≤ k) (h2 : k < 10) : pDs S q w (.inl none) (wT w k) := ⟨rfl, fun _ => ⟨k, h1, h2, rfl⟩, fun z => absurd (ht.symm.trans z) (by decide)⟩
set_option maxRecDepth 4000 in
theorem qX12_does_py {G : GX} {w : WS} {S : ST} (hS : mR S w) {n : Nat} {t : Nat → Nat} {k : Nat} (hk : k < 60) {c : Nat} {v : Int32} (hc : c < 64) (hq : okC (.inl (c, v))) (hd : hDf n t (w.1 124) k (.inl (c, v))) : ∃ o w2, (pDs S (.inl (c, v)) w o w2) ∧ Big G 8 0 mX12_does [.ref 115, .int (nI k)] w o w2 := by
  refine bx_of (P := pDs S (.inl (c, v)) w) (by decide +kernel) (Nat.le_of_ble_eq_true rfl) ?_
  show Ex G 8 0 mX12_does 0 [some (.ref 115), some (.int (nI k)), none, none, none] [] w _
  refine ex_s (fun _ => ev_aload_n dX12_does_0 rfl) ?_
  refine ex_s (fun _ => ev_getR fX12_40 dX12_does_1 (by decide) sh115 rfl) ?_
  refine ex_s (fun _ => ev_iconst dX12_does_4 ic5) ?_
  refine ex_s (fun _ => ev_iload_n dX12_does_5 rfl) ?_
  refine ex_s (fun _ => ev_imul dX12_does_6) ?_
  first | refine ex_s (fun _ => ev_top (pk_mul _ _)) ?_ | skip
  refine ex_s (fun _ => ev_iconst dX12_does_7 ic1) ?_
  refine ex_s (fun _ => ev_iadd dX12_does_8) ?_
  first | refine ex_s (fun _ => ev_top (nI_add _ _)) ?_ | skip
  refine ex_s (fun _ => ev_iaload dX12_does_9 rfl (by omega) (by decide) sh124) ?_
  refine ex_s (fun _ => ev_top hd.2.1) ?_
  refine ex_s (fun _ => ev_ist2 dX12_does_10 (by decide) rfl) ?_
  refine ex_s (fun _ => ev_aload_n dX12_does_11 rfl) ?_
  refine ex_s (fun _ => ev_getR fX12_40 dX12_does_12 (by decide) sh115 rfl) ?_
  refine ex_s (fun _ => ev_iconst dX12_does_15 ic5) ?_
  refine ex_s (fun _ => ev_iload_n dX12_does_16 rfl) ?_
  refine ex_s (fun _ => ev_imul dX12_does_17) ?_
  first | refine ex_s (fun _ => ev_top (pk_mul _ _)) ?_ | skip
  refine ex_s (fun _ => ev_iconst dX12_does_18 ic2) ?_
  refine ex_s (fun _ => ev_iadd dX12_does_19) ?_
  first | refine ex_s (fun _ => ev_top (nI_add _ _)) ?_ | skip
  refine ex_s (fun _ => ev_iaload dX12_does_20 rfl (by omega) (by decide) sh124) ?_
  refine ex_s (fun _ => ev_top hd.2.2) ?_
  refine ex_s (fun _ => ev_ist3 dX12_does_21 (by decide) rfl) ?_
  refine ex_s (fun _ => ev_aload_n dX12_does_22 rfl) ?_
  refine ex_s (fun _ => ev_getR fX12_40 dX12_does_23 (by decide) sh115 rfl) ?_
  refine ex_s (fun _ => ev_iconst dX12_does_26 ic5) ?_
  refine ex_s (fun _ => ev_iload_n dX12_does_27 rfl) ?_
  refine ex_s (fun _ => ev_imul dX12_does_28) ?_
  first | refine ex_s (fun _ => ev_top (pk_mul _ _)) ?_ | skip
  refine ex_s (fun _ => ev_iaload dX12_does_29 rfl (by omega) (by decide) sh124) ?_
  refine ex_s (fun _ => ev_top (hd.1 : _ = nI 112)) ?_
  refine ex_s (fun _ => ev_tableIn (tgt := 108) (off := 78) dX12_does_30 (by decide) (by decide) (by decide +kernel) (by decide)) ?_
  refine ex_s (fun _ => ev_aload_n dX12_does_108 rfl) ?_
  refine ex_s (fun _ => ev_iload_n dX12_does_109 rfl) ?_
  refine ex_s (fun _ => ev_iload_n dX12_does_110 rfl) ?_
  obtain ⟨_, w2, hp, hB⟩ := qX12_doPaint (G := G) hS hc hq.2
  obtain ⟨v2, rfl, -⟩ := id hp.1
  refine ex_s (fun _ => ev_callV kX12_96 co115 hB dX12_does_111 rfl (by decide) (by decide) rfl) ?_
  refine ex_s (fun _ => ev_ist4 dX12_does_114 (by decide) rfl) ?_
  refine ex_s (fun _ => ev_goto (tgt := 215) dX12_does_116 (by decide)) ?_
  exact ⟨_, _, (by exact pDs_y (show thC S (.inl (c, v)) = true from by simp [thC]; omega) (by decide) (by decide) hp), ev_vret dX12_does_215 rfl rfl rfl⟩
set_option maxRecDepth 4000 in
theorem qX12_does_pn {G : GX} {w : WS} {S : ST} (hS : mR S w) {n : Nat} {t : Nat → Nat} {k : Nat} (hk : k < 60) {c : Nat} {v : Int32} (hc : ¬ c < 64) (hq : okC (.inl (c, v))) (hd : hDf n t (w.1 124) k (.inl (c, v))) : ∃ o w2, (pDs S (.inl (c, v)) w o w2) ∧ Big G 8 0 mX12_does [.ref 115, .int (nI k)] w o w2 := by
  refine bx_of (P := pDs S (.inl (c, v)) w) (by decide +kernel) (Nat.le_of_ble_eq_true rfl) ?_
  show Ex G 8 0 mX12_does 0 [some (.ref 115), some (.int (nI k)), none, none, none] [] w _
  refine ex_s (fun _ => ev_aload_n dX12_does_0 rfl) ?_
  refine ex_s (fun _ => ev_getR fX12_40 dX12_does_1 (by decide) sh115 rfl) ?_
  refine ex_s (fun _ => ev_iconst dX12_does_4 ic5) ?_
  refine ex_s (fun _ => ev_iload_n dX12_does_5 rfl) ?_
  refine ex_s (fun _ => ev_imul dX12_does_6) ?_
  first | refine ex_s (fun _ => ev_top (pk_mul _ _)) ?_ | skip
  refine ex_s (fun _ => ev_iconst dX12_does_7 ic1) ?_
  refine ex_s (fun _ => ev_iadd dX12_does_8) ?_
  first | refine ex_s (fun _ => ev_top (nI_add _ _)) ?_ | skip
  refine ex_s (fun _ => ev_iaload dX12_does_9 rfl (by omega) (by decide) sh124) ?_
  refine ex_s (fun _ => ev_top hd.2.1) ?_
  refine ex_s (fun _ => ev_ist2 dX12_does_10 (by decide) rfl) ?_
  refine ex_s (fun _ => ev_aload_n dX12_does_11 rfl) ?_
  refine ex_s (fun _ => ev_getR fX12_40 dX12_does_12 (by decide) sh115 rfl) ?_
  refine ex_s (fun _ => ev_iconst dX12_does_15 ic5) ?_
  refine ex_s (fun _ => ev_iload_n dX12_does_16 rfl) ?_
  refine ex_s (fun _ => ev_imul dX12_does_17) ?_
  first | refine ex_s (fun _ => ev_top (pk_mul _ _)) ?_ | skip
  refine ex_s (fun _ => ev_iconst dX12_does_18 ic2) ?_
  refine ex_s (fun _ => ev_iadd dX12_does_19) ?_
  first | refine ex_s (fun _ => ev_top (nI_add _ _)) ?_ | skip
  refine ex_s (fun _ => ev_iaload dX12_does_20 rfl (by omega) (by decide) sh124) ?_
  refine ex_s (fun _ => ev_top hd.2.2) ?_
  refine ex_s (fun _ => ev_ist3 dX12_does_21 (by decide) rfl) ?_
  refine ex_s (fun _ => ev_aload_n dX12_does_22 rfl) ?_
  refine ex_s (fun _ => ev_getR fX12_40 dX12_does_23 (by decide) sh115 rfl) ?_
  refine ex_s (fun _ => ev_iconst dX12_does_26 ic5) ?_
  refine ex_s (fun _ => ev_iload_n dX12_does_27 rfl) ?_
  refine ex_s (fun _ => ev_imul dX12_does_28) ?_
  first | refine ex_s (fun _ => ev_top (pk_mul _ _)) ?_ | skip
  refine ex_s (fun _ => ev_iaload dX12_does_29 rfl (by omega) (by decide) sh124) ?_
  refine ex_s (fun _ => ev_top (hd.1 : _ = nI 112)) ?_
  refine ex_s (fun _ => ev_tableIn (tgt := 108) (off := 78) dX12_does_30 (by decide) (by decide) (by decide +kernel) (by decide)) ?_
  refine ex_s (fun _ => ev_aload_n dX12_does_108 rfl) ?_
  refine ex_s (fun _ => ev_iload_n dX12_does_109 rfl) ?_
  refine ex_s (fun _ => ev_iload_n dX12_does_110 rfl) ?_
  refine ex_s (fun _ => ev_callV kX12_96 co115 (qX12_doPaint_n (Or.inr (nI_le (by omega) (by have := hq.1; omega)))) dX12_does_111 rfl (by decide) (by decide) rfl) ?_
  refine ex_s (fun _ => ev_ist4 dX12_does_114 (by decide) rfl) ?_
  refine ex_s (fun _ => ev_goto (tgt := 215) dX12_does_116 (by decide)) ?_
  exact ⟨_, _, (by exact pDs_n (show thC S (.inl (c, v)) = false from by simp [thC]; omega) (k := 1) (by decide) (by decide)), ev_vret dX12_does_215 rfl rfl rfl⟩
set_option maxRecDepth 4000 in
theorem qX12_does_sy {G : GX} {w : WS} {S : ST} (hS : mR S w) {n : Nat} {t : Nat → Nat} {k : Nat} (hk : k < 60) {c r : Nat} (hc : c < 64) (hq : okC (.inr (.inl (c, r)))) (hd : hDf n t (w.1 124) k (.inr (.inl (c, r)))) : ∃ o w2, (pDs S (.inr (.inl (c, r))) w o w2) ∧ Big G 8 0 mX12_does [.ref 115, .int (nI k)] w o w2 := by
  refine bx_of (P := pDs S (.inr (.inl (c, r))) w) (by decide +kernel) (Nat.le_of_ble_eq_true rfl) ?_
  show Ex G 8 0 mX12_does 0 [some (.ref 115), some (.int (nI k)), none, none, none] [] w _
  refine ex_s (fun _ => ev_aload_n dX12_does_0 rfl) ?_
  refine ex_s (fun _ => ev_getR fX12_40 dX12_does_1 (by decide) sh115 rfl) ?_
  refine ex_s (fun _ => ev_iconst dX12_does_4 ic5) ?_
  refine ex_s (fun _ => ev_iload_n dX12_does_5 rfl) ?_
  refine ex_s (fun _ => ev_imul dX12_does_6) ?_
  first | refine ex_s (fun _ => ev_top (pk_mul _ _)) ?_ | skip
  refine ex_s (fun _ => ev_iconst dX12_does_7 ic1) ?_
  refine ex_s (fun _ => ev_iadd dX12_does_8) ?_
  first | refine ex_s (fun _ => ev_top (nI_add _ _)) ?_ | skip
  refine ex_s (fun _ => ev_iaload dX12_does_9 rfl (by omega) (by decide) sh124) ?_
  refine ex_s (fun _ => ev_top hd.2.1) ?_
  refine ex_s (fun _ => ev_ist2 dX12_does_10 (by decide) rfl) ?_
  refine ex_s (fun _ => ev_aload_n dX12_does_11 rfl) ?_
  refine ex_s (fun _ => ev_getR fX12_40 dX12_does_12 (by decide) sh115 rfl) ?_
  refine ex_s (fun _ => ev_iconst dX12_does_15 ic5) ?_
  refine ex_s (fun _ => ev_iload_n dX12_does_16 rfl) ?_
  refine ex_s (fun _ => ev_imul dX12_does_17) ?_
  first | refine ex_s (fun _ => ev_top (pk_mul _ _)) ?_ | skip
  refine ex_s (fun _ => ev_iconst dX12_does_18 ic2) ?_
  refine ex_s (fun _ => ev_iadd dX12_does_19) ?_
  first | refine ex_s (fun _ => ev_top (nI_add _ _)) ?_ | skip
  refine ex_s (fun _ => ev_iaload dX12_does_20 rfl (by omega) (by decide) sh124) ?_
  refine ex_s (fun _ => ev_top hd.2.2) ?_
  refine ex_s (fun _ => ev_ist3 dX12_does_21 (by decide) rfl) ?_
  refine ex_s (fun _ => ev_aload_n dX12_does_22 rfl) ?_
  refine ex_s (fun _ => ev_getR fX12_40 dX12_does_23 (by decide) sh115 rfl) ?_
  refine ex_s (fun _ => ev_iconst dX12_does_26 ic5) ?_
  refine ex_s (fun _ => ev_iload_n dX12_does_27 rfl) ?_
  refine ex_s (fun _ => ev_imul dX12_does_28) ?_
  first | refine ex_s (fun _ => ev_top (pk_mul _ _)) ?_ | skip
  refine ex_s (fun _ => ev_iaload dX12_does_29 rfl (by omega) (by decide) sh124) ?_
  refine ex_s (fun _ => ev_top (hd.1 : _ = nI 115)) ?_
  refine ex_s (fun _ => ev_tableIn (tgt := 119) (off := 89) dX12_does_30 (by decide) (by decide) (by decide +kernel) (by decide)) ?_
  refine ex_s (fun _ => ev_aload_n dX12_does_119 rfl) ?_
  refine ex_s (fun _ => ev_iload_n dX12_does_120 rfl) ?_
  refine ex_s (fun _ => ev_iload_n dX12_does_121 rfl) ?_
  obtain ⟨_, w2, hp, hB⟩ := qX12_doShave (G := G) hS hc hq.2
  obtain ⟨v2, rfl, -⟩ := id hp.1
  refine ex_s (fun _ => ev_callV kX12_119 co115 hB dX12_does_122 rfl (by decide) (by decide) rfl) ?_
  refine ex_s (fun _ => ev_ist4 dX12_does_125 (by decide) rfl) ?_
  refine ex_s (fun _ => ev_goto (tgt := 215) dX12_does_127 (by decide)) ?_
  exact ⟨_, _, (by exact pDs_y (show thC S (.inr (.inl (c, r))) = true from by simp [thC]; omega) (by decide) (by decide) hp), ev_vret dX12_does_215 rfl rfl rfl⟩
set_option maxRecDepth 4000 in
theorem qX12_does_sn {G : GX} {w : WS} {S : ST} (hS : mR S w) {n : Nat} {t : Nat → Nat} {k : Nat} (hk : k < 60) {c r : Nat} (hc : ¬ c < 64) (hq : okC (.inr (.inl (c, r)))) (hd : hDf n t (w.1 124) k (.inr (.inl (c, r)))) : ∃ o w2, (pDs S (.inr (.inl (c, r))) w o w2) ∧ Big G 8 0 mX12_does [.ref 115, .int (nI k)] w o w2 := by
  refine bx_of (P := pDs S (.inr (.inl (c, r))) w) (by decide +kernel) (Nat.le_of_ble_eq_true rfl) ?_
  show Ex G 8 0 mX12_does 0 [some (.ref 115), some (.int (nI k)), none, none, none] [] w _
  refine ex_s (fun _ => ev_aload_n dX12_does_0 rfl) ?_
  refine ex_s (fun _ => ev_getR fX12_40 dX12_does_1 (by decide) sh115 rfl) ?_
  refine ex_s (fun _ => ev_iconst dX12_does_4 ic5) ?_
  refine ex_s (fun _ => ev_iload_n dX12_does_5 rfl) ?_
  refine ex_s (fun _ => ev_imul dX12_does_6) ?_
  first | refine ex_s (fun _ => ev_top (pk_mul _ _)) ?_ | skip
  refine ex_s (fun _ => ev_iconst dX12_does_7 ic1) ?_
  refine ex_s (fun _ => ev_iadd dX12_does_8) ?_
  first | refine ex_s (fun _ => ev_top (nI_add _ _)) ?_ | skip
  refine ex_s (fun _ => ev_iaload dX12_does_9 rfl (by omega) (by decide) sh124) ?_
  refine ex_s (fun _ => ev_top hd.2.1) ?_
  refine ex_s (fun _ => ev_ist2 dX12_does_10 (by decide) rfl) ?_
  refine ex_s (fun _ => ev_aload_n dX12_does_11 rfl) ?_
  refine ex_s (fun _ => ev_getR fX12_40 dX12_does_12 (by decide) sh115 rfl) ?_
  refine ex_s (fun _ => ev_iconst dX12_does_15 ic5) ?_
  refine ex_s (fun _ => ev_iload_n dX12_does_16 rfl) ?_
  refine ex_s (fun _ => ev_imul dX12_does_17) ?_
  first | refine ex_s (fun _ => ev_top (pk_mul _ _)) ?_ | skip
  refine ex_s (fun _ => ev_iconst dX12_does_18 ic2) ?_
  refine ex_s (fun _ => ev_iadd dX12_does_19) ?_
  first | refine ex_s (fun _ => ev_top (nI_add _ _)) ?_ | skip
  refine ex_s (fun _ => ev_iaload dX12_does_20 rfl (by omega) (by decide) sh124) ?_
  refine ex_s (fun _ => ev_top hd.2.2) ?_
  refine ex_s (fun _ => ev_ist3 dX12_does_21 (by decide) rfl) ?_
  refine ex_s (fun _ => ev_aload_n dX12_does_22 rfl) ?_
  refine ex_s (fun _ => ev_getR fX12_40 dX12_does_23 (by decide) sh115 rfl) ?_
  refine ex_s (fun _ => ev_iconst dX12_does_26 ic5) ?_
  refine ex_s (fun _ => ev_iload_n dX12_does_27 rfl) ?_
  refine ex_s (fun _ => ev_imul dX12_does_28) ?_
  first | refine ex_s (fun _ => ev_top (pk_mul _ _)) ?_ | skip
  refine ex_s (fun _ => ev_iaload dX12_does_29 rfl (by omega) (by decide) sh124) ?_
  refine ex_s (fun _ => ev_top (hd.1 : _ = nI 115)) ?_
  refine ex_s (fun _ => ev_tableIn (tgt := 119) (off := 89) dX12_does_30 (by decide) (by decide) (by decide +kernel) (by decide)) ?_
  refine ex_s (fun _ => ev_aload_n dX12_does_119 rfl) ?_
  refine ex_s (fun _ => ev_iload_n dX12_does_120 rfl) ?_
  refine ex_s (fun _ => ev_iload_n dX12_does_121 rfl) ?_
  refine ex_s (fun _ => ev_callV kX12_119 co115 (qX12_doShave_n (Or.inr (nI_le (by omega) (by have := hq.1; omega)))) dX12_does_122 rfl (by decide) (by decide) rfl) ?_
  refine ex_s (fun _ => ev_ist4 dX12_does_125 (by decide) rfl) ?_
  refine ex_s (fun _ => ev_goto (tgt := 215) dX12_does_127 (by decide)) ?_
  exact ⟨_, _, (by exact pDs_n (show thC S (.inr (.inl (c, r))) = false from by simp [thC]; omega) (k := 1) (by decide) (by decide)), ev_vret dX12_does_215 rfl rfl rfl⟩
set_option maxRecDepth 4000 in
theorem qX12_does_my {G : GX} {w : WS} {S : ST} (hS : mR S w) {n : Nat} {t : Nat → Nat} {k : Nat} (hk : k < 60) {a : Nat} (hc : 1 ≤ a ∧ a ≤ 9) (hq : okC (.inr (.inr (.inl a)))) (hd : hDf n t (w.1 124) k (.inr (.inr (.inl a)))) : ∃ o w2, (pDs S (.inr (.inr (.inl a))) w o w2) ∧ Big G 8 0 mX12_does [.ref 115, .int (nI k)] w o w2 := by
  refine bx_of (P := pDs S (.inr (.inr (.inl a))) w) (by decide +kernel) (Nat.le_of_ble_eq_true rfl) ?_
  show Ex G 8 0 mX12_does 0 [some (.ref 115), some (.int (nI k)), none, none, none] [] w _
  refine ex_s (fun _ => ev_aload_n dX12_does_0 rfl) ?_
  refine ex_s (fun _ => ev_getR fX12_40 dX12_does_1 (by decide) sh115 rfl) ?_
  refine ex_s (fun _ => ev_iconst dX12_does_4 ic5) ?_
  refine ex_s (fun _ => ev_iload_n dX12_does_5 rfl) ?_
  refine ex_s (fun _ => ev_imul dX12_does_6) ?_
  first | refine ex_s (fun _ => ev_top (pk_mul _ _)) ?_ | skip
  refine ex_s (fun _ => ev_iconst dX12_does_7 ic1) ?_
  refine ex_s (fun _ => ev_iadd dX12_does_8) ?_
  first | refine ex_s (fun _ => ev_top (nI_add _ _)) ?_ | skip
  refine ex_s (fun _ => ev_iaload dX12_does_9 rfl (by omega) (by decide) sh124) ?_
  refine ex_s (fun _ => ev_top hd.2) ?_
  refine ex_s (fun _ => ev_ist2 dX12_does_10 (by decide) rfl) ?_
  refine ex_s (fun _ => ev_aload_n dX12_does_11 rfl) ?_
  refine ex_s (fun _ => ev_getR fX12_40 dX12_does_12 (by decide) sh115 rfl) ?_
  refine ex_s (fun _ => ev_iconst dX12_does_15 ic5) ?_
  refine ex_s (fun _ => ev_iload_n dX12_does_16 rfl) ?_
  refine ex_s (fun _ => ev_imul dX12_does_17) ?_
  first | refine ex_s (fun _ => ev_top (pk_mul _ _)) ?_ | skip
  refine ex_s (fun _ => ev_iconst dX12_does_18 ic2) ?_
  refine ex_s (fun _ => ev_iadd dX12_does_19) ?_
  first | refine ex_s (fun _ => ev_top (nI_add _ _)) ?_ | skip
  refine ex_s (fun _ => ev_iaload dX12_does_20 rfl (by omega) (by decide) sh124) ?_
  refine ex_s (fun _ => ev_ist3 dX12_does_21 (by decide) rfl) ?_
  refine ex_s (fun _ => ev_aload_n dX12_does_22 rfl) ?_
  refine ex_s (fun _ => ev_getR fX12_40 dX12_does_23 (by decide) sh115 rfl) ?_
  refine ex_s (fun _ => ev_iconst dX12_does_26 ic5) ?_
  refine ex_s (fun _ => ev_iload_n dX12_does_27 rfl) ?_
  refine ex_s (fun _ => ev_imul dX12_does_28) ?_
  first | refine ex_s (fun _ => ev_top (pk_mul _ _)) ?_ | skip
  refine ex_s (fun _ => ev_iaload dX12_does_29 rfl (by omega) (by decide) sh124) ?_
  refine ex_s (fun _ => ev_top (hd.1 : _ = nI 109)) ?_
  refine ex_s (fun _ => ev_tableIn (tgt := 130) (off := 100) dX12_does_30 (by decide) (by decide) (by decide +kernel) (by decide)) ?_
  refine ex_s (fun _ => ev_aload_n dX12_does_130 rfl) ?_
  refine ex_s (fun _ => ev_iload_n dX12_does_131 rfl) ?_
  obtain ⟨_, w2, hp, hB⟩ := qX12_doScale (G := G) hS hc.1 hc.2
  obtain ⟨v2, rfl, -⟩ := id hp.1
  refine ex_s (fun _ => ev_callV kX12_122 co115 hB dX12_does_132 rfl (by decide) (by decide) rfl) ?_
  refine ex_s (fun _ => ev_ist4 dX12_does_135 (by decide) rfl) ?_
  refine ex_s (fun _ => ev_goto (tgt := 215) dX12_does_137 (by decide)) ?_
  exact ⟨_, _, (by exact pDs_y (show thC S (.inr (.inr (.inl a))) = true from by simp [thC]; omega) (by decide) (by decide) hp), ev_vret dX12_does_215 rfl rfl rfl⟩
set_option maxRecDepth 4000 in
theorem qX12_does_mn {G : GX} {w : WS} {S : ST} (hS : mR S w) {n : Nat} {t : Nat → Nat} {k : Nat} (hk : k < 60) {a : Nat} (hc : ¬ (1 ≤ a ∧ a ≤ 9)) (hq : okC (.inr (.inr (.inl a)))) (hd : hDf n t (w.1 124) k (.inr (.inr (.inl a)))) : ∃ o w2, (pDs S (.inr (.inr (.inl a))) w o w2) ∧ Big G 8 0 mX12_does [.ref 115, .int (nI k)] w o w2 := by
  refine bx_of (P := pDs S (.inr (.inr (.inl a))) w) (by decide +kernel) (Nat.le_of_ble_eq_true rfl) ?_
  show Ex G 8 0 mX12_does 0 [some (.ref 115), some (.int (nI k)), none, none, none] [] w _
  refine ex_s (fun _ => ev_aload_n dX12_does_0 rfl) ?_
  refine ex_s (fun _ => ev_getR fX12_40 dX12_does_1 (by decide) sh115 rfl) ?_
  refine ex_s (fun _ => ev_iconst dX12_does_4 ic5) ?_
  refine ex_s (fun _ => ev_iload_n dX12_does_5 rfl) ?_
  refine ex_s (fun _ => ev_imul dX12_does_6) ?_
  first | refine ex_s (fun _ => ev_top (pk_mul _ _)) ?_ | skip
  refine ex_s (fun _ => ev_iconst dX12_does_7 ic1) ?_
  refine ex_s (fun _ => ev_iadd dX12_does_8) ?_
  first | refine ex_s (fun _ => ev_top (nI_add _ _)) ?_ | skip
  refine ex_s (fun _ => ev_iaload dX12_does_9 rfl (by omega) (by decide) sh124) ?_
  refine ex_s (fun _ => ev_top hd.2) ?_
  refine ex_s (fun _ => ev_ist2 dX12_does_10 (by decide) rfl) ?_
  refine ex_s (fun _ => ev_aload_n dX12_does_11 rfl) ?_
  refine ex_s (fun _ => ev_getR fX12_40 dX12_does_12 (by decide) sh115 rfl) ?_
  refine ex_s (fun _ => ev_iconst dX12_does_15 ic5) ?_
  refine ex_s (fun _ => ev_iload_n dX12_does_16 rfl) ?_
  refine ex_s (fun _ => ev_imul dX12_does_17) ?_
  first | refine ex_s (fun _ => ev_top (pk_mul _ _)) ?_ | skip
  refine ex_s (fun _ => ev_iconst dX12_does_18 ic2) ?_
  refine ex_s (fun _ => ev_iadd dX12_does_19) ?_
  first | refine ex_s (fun _ => ev_top (nI_add _ _)) ?_ | skip
  refine ex_s (fun _ => ev_iaload dX12_does_20 rfl (by omega) (by decide) sh124) ?_
  refine ex_s (fun _ => ev_ist3 dX12_does_21 (by decide) rfl) ?_
  refine ex_s (fun _ => ev_aload_n dX12_does_22 rfl) ?_
  refine ex_s (fun _ => ev_getR fX12_40 dX12_does_23 (by decide) sh115 rfl) ?_
  refine ex_s (fun _ => ev_iconst dX12_does_26 ic5) ?_
  refine ex_s (fun _ => ev_iload_n dX12_does_27 rfl) ?_
  refine ex_s (fun _ => ev_imul dX12_does_28) ?_
  first | refine ex_s (fun _ => ev_top (pk_mul _ _)) ?_ | skip
  refine ex_s (fun _ => ev_iaload dX12_does_29 rfl (by omega) (by decide) sh124) ?_
  refine ex_s (fun _ => ev_top (hd.1 : _ = nI 109)) ?_
  refine ex_s (fun _ => ev_tableIn (tgt := 130) (off := 100) dX12_does_30 (by decide) (by decide) (by decide +kernel) (by decide)) ?_
  refine ex_s (fun _ => ev_aload_n dX12_does_130 rfl) ?_
  refine ex_s (fun _ => ev_iload_n dX12_does_131 rfl) ?_
  refine ex_s (fun _ => ev_callV kX12_122 co115 (qX12_doScale_n hS (Or.inl (by rw [show a = 0 by have hq : a < 10 := hq; omega]; decide))) dX12_does_132 rfl (by decide) (by decide) rfl) ?_
  refine ex_s (fun _ => ev_ist4 dX12_does_135 (by decide) rfl) ?_
  refine ex_s (fun _ => ev_goto (tgt := 215) dX12_does_137 (by decide)) ?_
  exact ⟨_, _, (by exact pDs_n (show thC S (.inr (.inr (.inl a))) = false from by simp [thC]; omega) (k := 1) (by decide) (by decide)), ev_vret dX12_does_215 rfl rfl rfl⟩
set_option maxRecDepth 4000 in
theorem qX12_does_ky {G : GX} {w : WS} {S : ST} (hS : mR S w) {n : Nat} {t : Nat → Nat} {k : Nat} (hk : k < 60) {i : Nat} (hc : i < nR S) (hq : okC (.inr (.inr (.inr (.inr (.inl i)))))) (hd : hDf n t (w.1 124) k (.inr (.inr (.inr (.inr (.inl i)))))) : ∃ o w2, (pDs S (.inr (.inr (.inr (.inr (.inl i))))) w o w2) ∧ Big G 8 0 mX12_does [.ref 115, .int (nI k)] w o w2 := by
  refine bx_of (P := pDs S (.inr (.inr (.inr (.inr (.inl i))))) w) (by decide +kernel) (Nat.le_of_ble_eq_true rfl) ?_
  show Ex G 8 0 mX12_does 0 [some (.ref 115), some (.int (nI k)), none, none, none] [] w _
  refine ex_s (fun _ => ev_aload_n dX12_does_0 rfl) ?_
  refine ex_s (fun _ => ev_getR fX12_40 dX12_does_1 (by decide) sh115 rfl) ?_
  refine ex_s (fun _ => ev_iconst dX12_does_4 ic5) ?_
  refine ex_s (fun _ => ev_iload_n dX12_does_5 rfl) ?_
  refine ex_s (fun _ => ev_imul dX12_does_6) ?_
  first | refine ex_s (fun _ => ev_top (pk_mul _ _)) ?_ | skip
  refine ex_s (fun _ => ev_iconst dX12_does_7 ic1) ?_
  refine ex_s (fun _ => ev_iadd dX12_does_8) ?_
  first | refine ex_s (fun _ => ev_top (nI_add _ _)) ?_ | skip
  refine ex_s (fun _ => ev_iaload dX12_does_9 rfl (by omega) (by decide) sh124) ?_
  refine ex_s (fun _ => ev_top hd.2) ?_
  refine ex_s (fun _ => ev_ist2 dX12_does_10 (by decide) rfl) ?_
  refine ex_s (fun _ => ev_aload_n dX12_does_11 rfl) ?_
  refine ex_s (fun _ => ev_getR fX12_40 dX12_does_12 (by decide) sh115 rfl) ?_
  refine ex_s (fun _ => ev_iconst dX12_does_15 ic5) ?_
  refine ex_s (fun _ => ev_iload_n dX12_does_16 rfl) ?_
  refine ex_s (fun _ => ev_imul dX12_does_17) ?_
  first | refine ex_s (fun _ => ev_top (pk_mul _ _)) ?_ | skip
  refine ex_s (fun _ => ev_iconst dX12_does_18 ic2) ?_
  refine ex_s (fun _ => ev_iadd dX12_does_19) ?_
  first | refine ex_s (fun _ => ev_top (nI_add _ _)) ?_ | skip
  refine ex_s (fun _ => ev_iaload dX12_does_20 rfl (by omega) (by decide) sh124) ?_
  refine ex_s (fun _ => ev_ist3 dX12_does_21 (by decide) rfl) ?_
  refine ex_s (fun _ => ev_aload_n dX12_does_22 rfl) ?_
  refine ex_s (fun _ => ev_getR fX12_40 dX12_does_23 (by decide) sh115 rfl) ?_
  refine ex_s (fun _ => ev_iconst dX12_does_26 ic5) ?_
  refine ex_s (fun _ => ev_iload_n dX12_does_27 rfl) ?_
  refine ex_s (fun _ => ev_imul dX12_does_28) ?_
  first | refine ex_s (fun _ => ev_top (pk_mul _ _)) ?_ | skip
  refine ex_s (fun _ => ev_iaload dX12_does_29 rfl (by omega) (by decide) sh124) ?_
  refine ex_s (fun _ => ev_top (hd.1 : _ = nI 107)) ?_
  refine ex_s (fun _ => ev_tableIn (tgt := 187) (off := 157) dX12_does_30 (by decide) (by decide) (by decide +kernel) (by decide)) ?_
  refine ex_s (fun _ => ev_aload_n dX12_does_187 rfl) ?_
  refine ex_s (fun _ => ev_iload_n dX12_does_188 rfl) ?_
  obtain ⟨_, w2, hp, hB⟩ := qX12_doDrop (G := G) hS hc
  obtain ⟨v2, rfl, -⟩ := id hp.1
  refine ex_s (fun _ => ev_callV kX12_144 co115 hB dX12_does_189 rfl (by decide) (by decide) rfl) ?_
  refine ex_s (fun _ => ev_ist4 dX12_does_192 (by decide) rfl) ?_
  refine ex_s (fun _ => ev_goto (tgt := 215) dX12_does_194 (by decide)) ?_
  exact ⟨_, _, (by exact pDs_y (show thC S (.inr (.inr (.inr (.inr (.inl i))))) = true from by simp [thC]; omega) (by decide) (by decide) hp), ev_vret dX12_does_215 rfl rfl rfl⟩
set_option maxRecDepth 4000 in
theorem qX12_does_kn {G : GX} {w : WS} {S : ST} (hS : mR S w) {n : Nat} {t : Nat → Nat} {k : Nat} (hk : k < 60) {i : Nat} (hc : ¬ i < nR S) (hq : okC (.inr (.inr (.inr (.inr (.inl i)))))) (hd : hDf n t (w.1 124) k (.inr (.inr (.inr (.inr (.inl i)))))) : ∃ o w2, (pDs S (.inr (.inr (.inr (.inr (.inl i))))) w o w2) ∧ Big G 8 0 mX12_does [.ref 115, .int (nI k)] w o w2 := by
  refine bx_of (P := pDs S (.inr (.inr (.inr (.inr (.inl i))))) w) (by decide +kernel) (Nat.le_of_ble_eq_true rfl) ?_
  show Ex G 8 0 mX12_does 0 [some (.ref 115), some (.int (nI k)), none, none, none] [] w _
  refine ex_s (fun _ => ev_aload_n dX12_does_0 rfl) ?_
  refine ex_s (fun _ => ev_getR fX12_40 dX12_does_1 (by decide) sh115 rfl) ?_
  refine ex_s (fun _ => ev_iconst dX12_does_4 ic5) ?_
  refine ex_s (fun _ => ev_iload_n dX12_does_5 rfl) ?_
  refine ex_s (fun _ => ev_imul dX12_does_6) ?_
  first | refine ex_s (fun _ => ev_top (pk_mul _ _)) ?_ | skip
  refine ex_s (fun _ => ev_iconst dX12_does_7 ic1) ?_
  refine ex_s (fun _ => ev_iadd dX12_does_8) ?_
  first | refine ex_s (fun _ => ev_top (nI_add _ _)) ?_ | skip
  refine ex_s (fun _ => ev_iaload dX12_does_9 rfl (by omega) (by decide) sh124) ?_
  refine ex_s (fun _ => ev_top hd.2) ?_
  refine ex_s (fun _ => ev_ist2 dX12_does_10 (by decide) rfl) ?_
  refine ex_s (fun _ => ev_aload_n dX12_does_11 rfl) ?_
  refine ex_s (fun _ => ev_getR fX12_40 dX12_does_12 (by decide) sh115 rfl) ?_
  refine ex_s (fun _ => ev_iconst dX12_does_15 ic5) ?_
  refine ex_s (fun _ => ev_iload_n dX12_does_16 rfl) ?_
  refine ex_s (fun _ => ev_imul dX12_does_17) ?_
  first | refine ex_s (fun _ => ev_top (pk_mul _ _)) ?_ | skip
  refine ex_s (fun _ => ev_iconst dX12_does_18 ic2) ?_
  refine ex_s (fun _ => ev_iadd dX12_does_19) ?_
  first | refine ex_s (fun _ => ev_top (nI_add _ _)) ?_ | skip
  refine ex_s (fun _ => ev_iaload dX12_does_20 rfl (by omega) (by decide) sh124) ?_
  refine ex_s (fun _ => ev_ist3 dX12_does_21 (by decide) rfl) ?_
  refine ex_s (fun _ => ev_aload_n dX12_does_22 rfl) ?_
  refine ex_s (fun _ => ev_getR fX12_40 dX12_does_23 (by decide) sh115 rfl) ?_
  refine ex_s (fun _ => ev_iconst dX12_does_26 ic5) ?_
  refine ex_s (fun _ => ev_iload_n dX12_does_27 rfl) ?_
  refine ex_s (fun _ => ev_imul dX12_does_28) ?_
  first | refine ex_s (fun _ => ev_top (pk_mul _ _)) ?_ | skip
  refine ex_s (fun _ => ev_iaload dX12_does_29 rfl (by omega) (by decide) sh124) ?_
  refine ex_s (fun _ => ev_top (hd.1 : _ = nI 107)) ?_
  refine ex_s (fun _ => ev_tableIn (tgt := 187) (off := 157) dX12_does_30 (by decide) (by decide) (by decide +kernel) (by decide)) ?_
  refine ex_s (fun _ => ev_aload_n dX12_does_187 rfl) ?_
  refine ex_s (fun _ => ev_iload_n dX12_does_188 rfl) ?_
  refine ex_s (fun _ => ev_callV kX12_144 co115 (qX12_doDrop_n hS (Or.inr (nI_le (by omega) (by have hq : i < 10 := hq; omega)))) dX12_does_189 rfl (by decide) (by decide) rfl) ?_
  refine ex_s (fun _ => ev_ist4 dX12_does_192 (by decide) rfl) ?_
  refine ex_s (fun _ => ev_goto (tgt := 215) dX12_does_194 (by decide)) ?_
  exact ⟨_, _, (by exact pDs_n (show thC S (.inr (.inr (.inr (.inr (.inl i))))) = false from by simp [thC]; omega) (k := 1) (by decide) (by decide)), ev_vret dX12_does_215 rfl rfl rfl⟩
set_option maxRecDepth 4000 in
theorem qX12_does_fy {G : GX} {w : WS} {S : ST} (hS : mR S w) {n : Nat} {t : Nat → Nat} {k : Nat} (hk : k < 60) {i : Nat} (hc : i < nD S) (hq : okC (.inr (.inr (.inr (.inr (.inr (.inr i))))))) (hd : hDf n t (w.1 124) k (.inr (.inr (.inr (.inr (.inr (.inr i))))))) : ∃ o w2, (pDs S (.inr (.inr (.inr (.inr (.inr (.inr i)))))) w o w2) ∧ Big G 8 0 mX12_does [.ref 115, .int (nI k)] w o w2 := by
  refine bx_of (P := pDs S (.inr (.inr (.inr (.inr (.inr (.inr i)))))) w) (by decide +kernel) (Nat.le_of_ble_eq_true rfl) ?_
  show Ex G 8 0 mX12_does 0 [some (.ref 115), some (.int (nI k)), none, none, none] [] w _
  refine ex_s (fun _ => ev_aload_n dX12_does_0 rfl) ?_
  refine ex_s (fun _ => ev_getR fX12_40 dX12_does_1 (by decide) sh115 rfl) ?_
  refine ex_s (fun _ => ev_iconst dX12_does_4 ic5) ?_
  refine ex_s (fun _ => ev_iload_n dX12_does_5 rfl) ?_
  refine ex_s (fun _ => ev_imul dX12_does_6) ?_
  first | refine ex_s (fun _ => ev_top (pk_mul _ _)) ?_ | skip
  refine ex_s (fun _ => ev_iconst dX12_does_7 ic1) ?_
  refine ex_s (fun _ => ev_iadd dX12_does_8) ?_
  first | refine ex_s (fun _ => ev_top (nI_add _ _)) ?_ | skip
  refine ex_s (fun _ => ev_iaload dX12_does_9 rfl (by omega) (by decide) sh124) ?_
  refine ex_s (fun _ => ev_top hd.2) ?_
  refine ex_s (fun _ => ev_ist2 dX12_does_10 (by decide) rfl) ?_
  refine ex_s (fun _ => ev_aload_n dX12_does_11 rfl) ?_
  refine ex_s (fun _ => ev_getR fX12_40 dX12_does_12 (by decide) sh115 rfl) ?_
  refine ex_s (fun _ => ev_iconst dX12_does_15 ic5) ?_
  refine ex_s (fun _ => ev_iload_n dX12_does_16 rfl) ?_
  refine ex_s (fun _ => ev_imul dX12_does_17) ?_
  first | refine ex_s (fun _ => ev_top (pk_mul _ _)) ?_ | skip
  refine ex_s (fun _ => ev_iconst dX12_does_18 ic2) ?_
  refine ex_s (fun _ => ev_iadd dX12_does_19) ?_
  first | refine ex_s (fun _ => ev_top (nI_add _ _)) ?_ | skip
  refine ex_s (fun _ => ev_iaload dX12_does_20 rfl (by omega) (by decide) sh124) ?_
  refine ex_s (fun _ => ev_ist3 dX12_does_21 (by decide) rfl) ?_
  refine ex_s (fun _ => ev_aload_n dX12_does_22 rfl) ?_
  refine ex_s (fun _ => ev_getR fX12_40 dX12_does_23 (by decide) sh115 rfl) ?_
  refine ex_s (fun _ => ev_iconst dX12_does_26 ic5) ?_
  refine ex_s (fun _ => ev_iload_n dX12_does_27 rfl) ?_
  refine ex_s (fun _ => ev_imul dX12_does_28) ?_
  first | refine ex_s (fun _ => ev_top (pk_mul _ _)) ?_ | skip
  refine ex_s (fun _ => ev_iaload dX12_does_29 rfl (by omega) (by decide) sh124) ?_
  refine ex_s (fun _ => ev_top (hd.1 : _ = nI 102)) ?_
  refine ex_s (fun _ => ev_tableIn (tgt := 208) (off := 178) dX12_does_30 (by decide) (by decide) (by decide +kernel) (by decide)) ?_
  refine ex_s (fun _ => ev_aload_n dX12_does_208 rfl) ?_
  refine ex_s (fun _ => ev_iload_n dX12_does_209 rfl) ?_
  obtain ⟨_, w2, hp, hB⟩ := qX12_doScare (G := G) hS hc
  obtain ⟨v2, rfl, -⟩ := id hp.1
  refine ex_s (fun _ => ev_callV kX12_153 co115 hB dX12_does_210 rfl (by decide) (by decide) rfl) ?_
  refine ex_s (fun _ => ev_ist4 dX12_does_213 (by decide) rfl) ?_
  exact ⟨_, _, (by exact pDs_y (show thC S (.inr (.inr (.inr (.inr (.inr (.inr i)))))) = true from by simp [thC]; omega) (by decide) (by decide) hp), ev_vret dX12_does_215 rfl rfl rfl⟩
set_option maxRecDepth 4000 in
theorem qX12_does_fn {G : GX} {w : WS} {S : ST} (hS : mR S w) {n : Nat} {t : Nat → Nat} {k : Nat} (hk : k < 60) {i : Nat} (hc : ¬ i < nD S) (hq : okC (.inr (.inr (.inr (.inr (.inr (.inr i))))))) (hd : hDf n t (w.1 124) k (.inr (.inr (.inr (.inr (.inr (.inr i))))))) : ∃ o w2, (pDs S (.inr (.inr (.inr (.inr (.inr (.inr i)))))) w o w2) ∧ Big G 8 0 mX12_does [.ref 115, .int (nI k)] w o w2 := by
  refine bx_of (P := pDs S (.inr (.inr (.inr (.inr (.inr (.inr i)))))) w) (by decide +kernel) (Nat.le_of_ble_eq_true rfl) ?_
  show Ex G 8 0 mX12_does 0 [some (.ref 115), some (.int (nI k)), none, none, none] [] w _
  refine ex_s (fun _ => ev_aload_n dX12_does_0 rfl) ?_
  refine ex_s (fun _ => ev_getR fX12_40 dX12_does_1 (by decide) sh115 rfl) ?_
  refine ex_s (fun _ => ev_iconst dX12_does_4 ic5) ?_
  refine ex_s (fun _ => ev_iload_n dX12_does_5 rfl) ?_
  refine ex_s (fun _ => ev_imul dX12_does_6) ?_
  first | refine ex_s (fun _ => ev_top (pk_mul _ _)) ?_ | skip
  refine ex_s (fun _ => ev_iconst dX12_does_7 ic1) ?_
  refine ex_s (fun _ => ev_iadd dX12_does_8) ?_
  first | refine ex_s (fun _ => ev_top (nI_add _ _)) ?_ | skip
  refine ex_s (fun _ => ev_iaload dX12_does_9 rfl (by omega) (by decide) sh124) ?_
  refine ex_s (fun _ => ev_top hd.2) ?_
  refine ex_s (fun _ => ev_ist2 dX12_does_10 (by decide) rfl) ?_
  refine ex_s (fun _ => ev_aload_n dX12_does_11 rfl) ?_
  refine ex_s (fun _ => ev_getR fX12_40 dX12_does_12 (by decide) sh115 rfl) ?_
  refine ex_s (fun _ => ev_iconst dX12_does_15 ic5) ?_
  refine ex_s (fun _ => ev_iload_n dX12_does_16 rfl) ?_
  refine ex_s (fun _ => ev_imul dX12_does_17) ?_
  first | refine ex_s (fun _ => ev_top (pk_mul _ _)) ?_ | skip
  refine ex_s (fun _ => ev_iconst dX12_does_18 ic2) ?_
  refine ex_s (fun _ => ev_iadd dX12_does_19) ?_
  first | refine ex_s (fun _ => ev_top (nI_add _ _)) ?_ | skip
  refine ex_s (fun _ => ev_iaload dX12_does_20 rfl (by omega) (by decide) sh124) ?_
  refine ex_s (fun _ => ev_ist3 dX12_does_21 (by decide) rfl) ?_
  refine ex_s (fun _ => ev_aload_n dX12_does_22 rfl) ?_
  refine ex_s (fun _ => ev_getR fX12_40 dX12_does_23 (by decide) sh115 rfl) ?_
  refine ex_s (fun _ => ev_iconst dX12_does_26 ic5) ?_
  refine ex_s (fun _ => ev_iload_n dX12_does_27 rfl) ?_
  refine ex_s (fun _ => ev_imul dX12_does_28) ?_
  first | refine ex_s (fun _ => ev_top (pk_mul _ _)) ?_ | skip
  refine ex_s (fun _ => ev_iaload dX12_does_29 rfl (by omega) (by decide) sh124) ?_
  refine ex_s (fun _ => ev_top (hd.1 : _ = nI 102)) ?_
  refine ex_s (fun _ => ev_tableIn (tgt := 208) (off := 178) dX12_does_30 (by decide) (by decide) (by decide +kernel) (by decide)) ?_
  refine ex_s (fun _ => ev_aload_n dX12_does_208 rfl) ?_
  refine ex_s (fun _ => ev_iload_n dX12_does_209 rfl) ?_
  refine ex_s (fun _ => ev_callV kX12_153 co115 (qX12_doScare_n hS (Or.inr (nI_le (by omega) (by have hq : i < 10 := hq; omega)))) dX12_does_210 rfl (by decide) (by decide) rfl) ?_
  refine ex_s (fun _ => ev_ist4 dX12_does_213 (by decide) rfl) ?_
  exact ⟨_, _, (by exact pDs_n (show thC S (.inr (.inr (.inr (.inr (.inr (.inr i)))))) = false from by simp [thC]; omega) (k := 1) (by decide) (by decide)), ev_vret dX12_does_215 rfl rfl rfl⟩
set_option maxRecDepth 4000 in
theorem qX12_does_dy {G : GX} {w : WS} {S : ST} (hS : mR S w) {n : Nat} {t : Nat → Nat} {k : Nat} (hk : k < 60) {c p : Nat} (hc : c < 64 ∧ 1 ≤ p ∧ p ≤ 50) (hq : okC (.inr (.inr (.inr (.inr (.inr (.inl (c, p)))))))) (hd : hDf n t (w.1 124) k (.inr (.inr (.inr (.inr (.inr (.inl (c, p)))))))) : ∃ o w2, (pDs S (.inr (.inr (.inr (.inr (.inr (.inl (c, p))))))) w o w2) ∧ Big G 8 0 mX12_does [.ref 115, .int (nI k)] w o w2 := by
  refine bx_of (P := pDs S (.inr (.inr (.inr (.inr (.inr (.inl (c, p))))))) w) (by decide +kernel) (Nat.le_of_ble_eq_true rfl) ?_
  show Ex G 8 0 mX12_does 0 [some (.ref 115), some (.int (nI k)), none, none, none] [] w _
  refine ex_s (fun _ => ev_aload_n dX12_does_0 rfl) ?_
  refine ex_s (fun _ => ev_getR fX12_40 dX12_does_1 (by decide) sh115 rfl) ?_
  refine ex_s (fun _ => ev_iconst dX12_does_4 ic5) ?_
  refine ex_s (fun _ => ev_iload_n dX12_does_5 rfl) ?_
  refine ex_s (fun _ => ev_imul dX12_does_6) ?_
  first | refine ex_s (fun _ => ev_top (pk_mul _ _)) ?_ | skip
  refine ex_s (fun _ => ev_iconst dX12_does_7 ic1) ?_
  refine ex_s (fun _ => ev_iadd dX12_does_8) ?_
  first | refine ex_s (fun _ => ev_top (nI_add _ _)) ?_ | skip
  refine ex_s (fun _ => ev_iaload dX12_does_9 rfl (by omega) (by decide) sh124) ?_
  refine ex_s (fun _ => ev_top hd.2.1) ?_
  refine ex_s (fun _ => ev_ist2 dX12_does_10 (by decide) rfl) ?_
  refine ex_s (fun _ => ev_aload_n dX12_does_11 rfl) ?_
  refine ex_s (fun _ => ev_getR fX12_40 dX12_does_12 (by decide) sh115 rfl) ?_
  refine ex_s (fun _ => ev_iconst dX12_does_15 ic5) ?_
  refine ex_s (fun _ => ev_iload_n dX12_does_16 rfl) ?_
  refine ex_s (fun _ => ev_imul dX12_does_17) ?_
  first | refine ex_s (fun _ => ev_top (pk_mul _ _)) ?_ | skip
  refine ex_s (fun _ => ev_iconst dX12_does_18 ic2) ?_
  refine ex_s (fun _ => ev_iadd dX12_does_19) ?_
  first | refine ex_s (fun _ => ev_top (nI_add _ _)) ?_ | skip
  refine ex_s (fun _ => ev_iaload dX12_does_20 rfl (by omega) (by decide) sh124) ?_
  refine ex_s (fun _ => ev_top hd.2.2) ?_
  refine ex_s (fun _ => ev_ist3 dX12_does_21 (by decide) rfl) ?_
  refine ex_s (fun _ => ev_aload_n dX12_does_22 rfl) ?_
  refine ex_s (fun _ => ev_getR fX12_40 dX12_does_23 (by decide) sh115 rfl) ?_
  refine ex_s (fun _ => ev_iconst dX12_does_26 ic5) ?_
  refine ex_s (fun _ => ev_iload_n dX12_does_27 rfl) ?_
  refine ex_s (fun _ => ev_imul dX12_does_28) ?_
  first | refine ex_s (fun _ => ev_top (pk_mul _ _)) ?_ | skip
  refine ex_s (fun _ => ev_iaload dX12_does_29 rfl (by omega) (by decide) sh124) ?_
  refine ex_s (fun _ => ev_top (hd.1 : _ = nI 100)) ?_
  refine ex_s (fun _ => ev_tableIn (tgt := 197) (off := 167) dX12_does_30 (by decide) (by decide) (by decide +kernel) (by decide)) ?_
  refine ex_s (fun _ => ev_aload_n dX12_does_197 rfl) ?_
  refine ex_s (fun _ => ev_iload_n dX12_does_198 rfl) ?_
  refine ex_s (fun _ => ev_iload_n dX12_does_199 rfl) ?_
  obtain ⟨_, w2, hp, hB⟩ := qX12_doDragon (G := G) hS hc.1 hc.2.1 hc.2.2
  obtain ⟨v2, rfl, -⟩ := id hp.1
  refine ex_s (fun _ => ev_callV kX12_147 co115 hB dX12_does_200 rfl (by decide) (by decide) rfl) ?_
  refine ex_s (fun _ => ev_ist4 dX12_does_203 (by decide) rfl) ?_
  refine ex_s (fun _ => ev_goto (tgt := 215) dX12_does_205 (by decide)) ?_
  exact ⟨_, _, (by exact pDs_y (show thC S (.inr (.inr (.inr (.inr (.inr (.inl (c, p))))))) = true from by simp [thC]; omega) (by decide) (by decide) hp), ev_vret dX12_does_215 rfl rfl rfl⟩
set_option maxRecDepth 4000 in
theorem qX12_does_dn {G : GX} {w : WS} {S : ST} (hS : mR S w) {n : Nat} {t : Nat → Nat} {k : Nat} (hk : k < 60) {c p : Nat} (hc : ¬ c < 64) (hq : okC (.inr (.inr (.inr (.inr (.inr (.inl (c, p)))))))) (hd : hDf n t (w.1 124) k (.inr (.inr (.inr (.inr (.inr (.inl (c, p)))))))) : ∃ o w2, (pDs S (.inr (.inr (.inr (.inr (.inr (.inl (c, p))))))) w o w2) ∧ Big G 8 0 mX12_does [.ref 115, .int (nI k)] w o w2 := by
  refine bx_of (P := pDs S (.inr (.inr (.inr (.inr (.inr (.inl (c, p))))))) w) (by decide +kernel) (Nat.le_of_ble_eq_true rfl) ?_
  show Ex G 8 0 mX12_does 0 [some (.ref 115), some (.int (nI k)), none, none, none] [] w _
  refine ex_s (fun _ => ev_aload_n dX12_does_0 rfl) ?_
  refine ex_s (fun _ => ev_getR fX12_40 dX12_does_1 (by decide) sh115 rfl) ?_
  refine ex_s (fun _ => ev_iconst dX12_does_4 ic5) ?_
  refine ex_s (fun _ => ev_iload_n dX12_does_5 rfl) ?_
  refine ex_s (fun _ => ev_imul dX12_does_6) ?_
  first | refine ex_s (fun _ => ev_top (pk_mul _ _)) ?_ | skip
  refine ex_s (fun _ => ev_iconst dX12_does_7 ic1) ?_
  refine ex_s (fun _ => ev_iadd dX12_does_8) ?_
  first | refine ex_s (fun _ => ev_top (nI_add _ _)) ?_ | skip
  refine ex_s (fun _ => ev_iaload dX12_does_9 rfl (by omega) (by decide) sh124) ?_
  refine ex_s (fun _ => ev_top hd.2.1) ?_
  refine ex_s (fun _ => ev_ist2 dX12_does_10 (by decide) rfl) ?_
  refine ex_s (fun _ => ev_aload_n dX12_does_11 rfl) ?_
  refine ex_s (fun _ => ev_getR fX12_40 dX12_does_12 (by decide) sh115 rfl) ?_
  refine ex_s (fun _ => ev_iconst dX12_does_15 ic5) ?_
  refine ex_s (fun _ => ev_iload_n dX12_does_16 rfl) ?_
  refine ex_s (fun _ => ev_imul dX12_does_17) ?_
  first | refine ex_s (fun _ => ev_top (pk_mul _ _)) ?_ | skip
  refine ex_s (fun _ => ev_iconst dX12_does_18 ic2) ?_
  refine ex_s (fun _ => ev_iadd dX12_does_19) ?_
  first | refine ex_s (fun _ => ev_top (nI_add _ _)) ?_ | skip
  refine ex_s (fun _ => ev_iaload dX12_does_20 rfl (by omega) (by decide) sh124) ?_
  refine ex_s (fun _ => ev_top hd.2.2) ?_
  refine ex_s (fun _ => ev_ist3 dX12_does_21 (by decide) rfl) ?_
  refine ex_s (fun _ => ev_aload_n dX12_does_22 rfl) ?_
  refine ex_s (fun _ => ev_getR fX12_40 dX12_does_23 (by decide) sh115 rfl) ?_
  refine ex_s (fun _ => ev_iconst dX12_does_26 ic5) ?_
  refine ex_s (fun _ => ev_iload_n dX12_does_27 rfl) ?_
  refine ex_s (fun _ => ev_imul dX12_does_28) ?_
  first | refine ex_s (fun _ => ev_top (pk_mul _ _)) ?_ | skip
  refine ex_s (fun _ => ev_iaload dX12_does_29 rfl (by omega) (by decide) sh124) ?_
  refine ex_s (fun _ => ev_top (hd.1 : _ = nI 100)) ?_
  refine ex_s (fun _ => ev_tableIn (tgt := 197) (off := 167) dX12_does_30 (by decide) (by decide) (by decide +kernel) (by decide)) ?_
  refine ex_s (fun _ => ev_aload_n dX12_does_197 rfl) ?_
  refine ex_s (fun _ => ev_iload_n dX12_does_198 rfl) ?_
  refine ex_s (fun _ => ev_iload_n dX12_does_199 rfl) ?_
  refine ex_s (fun _ => ev_callV kX12_147 co115 (qX12_doDragon_n hS (Or.inr (nI_le (by omega) (by have := hq.1; omega)))) dX12_does_200 rfl (by decide) (by decide) rfl) ?_
  refine ex_s (fun _ => ev_ist4 dX12_does_203 (by decide) rfl) ?_
  refine ex_s (fun _ => ev_goto (tgt := 215) dX12_does_205 (by decide)) ?_
  exact ⟨_, _, (by exact pDs_n (show thC S (.inr (.inr (.inr (.inr (.inr (.inl (c, p))))))) = false from by simp [thC]; omega) (k := 1) (by decide) (by decide)), ev_vret dX12_does_215 rfl rfl rfl⟩
set_option maxRecDepth 4000 in
theorem qX12_does_dq {G : GX} {w : WS} {S : ST} (hS : mR S w) {n : Nat} {t : Nat → Nat} {k : Nat} (hk : k < 60) {c p : Nat} (hc : c < 64) (hc2 : ¬ (1 ≤ p ∧ p ≤ 50)) (hq : okC (.inr (.inr (.inr (.inr (.inr (.inl (c, p)))))))) (hd : hDf n t (w.1 124) k (.inr (.inr (.inr (.inr (.inr (.inl (c, p)))))))) : ∃ o w2, (pDs S (.inr (.inr (.inr (.inr (.inr (.inl (c, p))))))) w o w2) ∧ Big G 8 0 mX12_does [.ref 115, .int (nI k)] w o w2 := by
  refine bx_of (P := pDs S (.inr (.inr (.inr (.inr (.inr (.inl (c, p))))))) w) (by decide +kernel) (Nat.le_of_ble_eq_true rfl) ?_
  show Ex G 8 0 mX12_does 0 [some (.ref 115), some (.int (nI k)), none, none, none] [] w _
  refine ex_s (fun _ => ev_aload_n dX12_does_0 rfl) ?_
  refine ex_s (fun _ => ev_getR fX12_40 dX12_does_1 (by decide) sh115 rfl) ?_
  refine ex_s (fun _ => ev_iconst dX12_does_4 ic5) ?_
  refine ex_s (fun _ => ev_iload_n dX12_does_5 rfl) ?_
  refine ex_s (fun _ => ev_imul dX12_does_6) ?_
  first | refine ex_s (fun _ => ev_top (pk_mul _ _)) ?_ | skip
  refine ex_s (fun _ => ev_iconst dX12_does_7 ic1) ?_
  refine ex_s (fun _ => ev_iadd dX12_does_8) ?_
  first | refine ex_s (fun _ => ev_top (nI_add _ _)) ?_ | skip
  refine ex_s (fun _ => ev_iaload dX12_does_9 rfl (by omega) (by decide) sh124) ?_
  refine ex_s (fun _ => ev_top hd.2.1) ?_
  refine ex_s (fun _ => ev_ist2 dX12_does_10 (by decide) rfl) ?_
  refine ex_s (fun _ => ev_aload_n dX12_does_11 rfl) ?_
  refine ex_s (fun _ => ev_getR fX12_40 dX12_does_12 (by decide) sh115 rfl) ?_
  refine ex_s (fun _ => ev_iconst dX12_does_15 ic5) ?_
  refine ex_s (fun _ => ev_iload_n dX12_does_16 rfl) ?_
  refine ex_s (fun _ => ev_imul dX12_does_17) ?_
  first | refine ex_s (fun _ => ev_top (pk_mul _ _)) ?_ | skip
  refine ex_s (fun _ => ev_iconst dX12_does_18 ic2) ?_
  refine ex_s (fun _ => ev_iadd dX12_does_19) ?_
  first | refine ex_s (fun _ => ev_top (nI_add _ _)) ?_ | skip
  refine ex_s (fun _ => ev_iaload dX12_does_20 rfl (by omega) (by decide) sh124) ?_
  refine ex_s (fun _ => ev_top hd.2.2) ?_
  refine ex_s (fun _ => ev_ist3 dX12_does_21 (by decide) rfl) ?_
  refine ex_s (fun _ => ev_aload_n dX12_does_22 rfl) ?_
  refine ex_s (fun _ => ev_getR fX12_40 dX12_does_23 (by decide) sh115 rfl) ?_
  refine ex_s (fun _ => ev_iconst dX12_does_26 ic5) ?_
  refine ex_s (fun _ => ev_iload_n dX12_does_27 rfl) ?_
  refine ex_s (fun _ => ev_imul dX12_does_28) ?_
  first | refine ex_s (fun _ => ev_top (pk_mul _ _)) ?_ | skip
  refine ex_s (fun _ => ev_iaload dX12_does_29 rfl (by omega) (by decide) sh124) ?_
  refine ex_s (fun _ => ev_top (hd.1 : _ = nI 100)) ?_
  refine ex_s (fun _ => ev_tableIn (tgt := 197) (off := 167) dX12_does_30 (by decide) (by decide) (by decide +kernel) (by decide)) ?_
  refine ex_s (fun _ => ev_aload_n dX12_does_197 rfl) ?_
  refine ex_s (fun _ => ev_iload_n dX12_does_198 rfl) ?_
  refine ex_s (fun _ => ev_iload_n dX12_does_199 rfl) ?_
  refine ex_s (fun _ => ev_callV kX12_147 co115 (qX12_doDragon_m hS hc (by rcases Nat.eq_zero_or_pos p with z | z; exact Or.inl (by subst z; decide); exact Or.inr (Int32.not_le.mp (nI_ge (show 50 < p by omega) (by have : p < 100 := hq.2; omega))))) dX12_does_200 rfl (by decide) (by decide) rfl) ?_
  refine ex_s (fun _ => ev_ist4 dX12_does_203 (by decide) rfl) ?_
  refine ex_s (fun _ => ev_goto (tgt := 215) dX12_does_205 (by decide)) ?_
  exact ⟨_, _, (by exact pDs_n (show thC S (.inr (.inr (.inr (.inr (.inr (.inl (c, p))))))) = false from by simp [thC]; omega) (k := 2) (by decide) (by decide)), ev_vret dX12_does_215 rfl rfl rfl⟩
set_option maxRecDepth 4000 in
theorem qX12_does_ry {G : GX} {w : WS} {S : ST} (hS : mR S w) {n : Nat} {t : Nat → Nat} {k : Nat} (hk : k < 60) (hn : n ≤ 60) (htx : ∀ i, i < n → w.1 123 i = nI (t i) ∧ 32 ≤ t i ∧ t i ≤ 126) {c v l : Nat} {ds : Nat → Nat} (hc : c < 64) (hq : okC (.inr (.inr (.inr (.inl (c, v, l, ds)))))) (hd : hDf n t (w.1 124) k (.inr (.inr (.inr (.inl (c, v, l, ds)))))) : ∃ o w2, (pDs S (.inr (.inr (.inr (.inl (c, v, l, ds))))) w o w2) ∧ Big G 8 0 mX12_does [.ref 115, .int (nI k)] w o w2 := by
  obtain ⟨hd0, hd1, hd3, hd4, fr, hd2, hfr, hst⟩ := id hd
  obtain ⟨q1, q2, q3, q4, q5⟩ := id hq
  refine bx_of (P := pDs S (.inr (.inr (.inr (.inl (c, v, l, ds))))) w) (by decide +kernel) (Nat.le_of_ble_eq_true rfl) ?_
  show Ex G 8 0 mX12_does 0 [some (.ref 115), some (.int (nI k)), none, none, none] [] w _
  refine ex_s (fun _ => ev_aload_n dX12_does_0 rfl) ?_
  refine ex_s (fun _ => ev_getR fX12_40 dX12_does_1 (by decide) sh115 rfl) ?_
  refine ex_s (fun _ => ev_iconst dX12_does_4 ic5) ?_
  refine ex_s (fun _ => ev_iload_n dX12_does_5 rfl) ?_
  refine ex_s (fun _ => ev_imul dX12_does_6) ?_
  first | refine ex_s (fun _ => ev_top (pk_mul _ _)) ?_ | skip
  refine ex_s (fun _ => ev_iconst dX12_does_7 ic1) ?_
  refine ex_s (fun _ => ev_iadd dX12_does_8) ?_
  first | refine ex_s (fun _ => ev_top (nI_add _ _)) ?_ | skip
  refine ex_s (fun _ => ev_iaload dX12_does_9 rfl (by omega) (by decide) sh124) ?_
  refine ex_s (fun _ => ev_top hd1) ?_
  refine ex_s (fun _ => ev_ist2 dX12_does_10 (by decide) rfl) ?_
  refine ex_s (fun _ => ev_aload_n dX12_does_11 rfl) ?_
  refine ex_s (fun _ => ev_getR fX12_40 dX12_does_12 (by decide) sh115 rfl) ?_
  refine ex_s (fun _ => ev_iconst dX12_does_15 ic5) ?_
  refine ex_s (fun _ => ev_iload_n dX12_does_16 rfl) ?_
  refine ex_s (fun _ => ev_imul dX12_does_17) ?_
  first | refine ex_s (fun _ => ev_top (pk_mul _ _)) ?_ | skip
  refine ex_s (fun _ => ev_iconst dX12_does_18 ic2) ?_
  refine ex_s (fun _ => ev_iadd dX12_does_19) ?_
  first | refine ex_s (fun _ => ev_top (nI_add _ _)) ?_ | skip
  refine ex_s (fun _ => ev_iaload dX12_does_20 rfl (by omega) (by decide) sh124) ?_
  refine ex_s (fun _ => ev_top hd2) ?_
  refine ex_s (fun _ => ev_ist3 dX12_does_21 (by decide) rfl) ?_
  refine ex_s (fun _ => ev_aload_n dX12_does_22 rfl) ?_
  refine ex_s (fun _ => ev_getR fX12_40 dX12_does_23 (by decide) sh115 rfl) ?_
  refine ex_s (fun _ => ev_iconst dX12_does_26 ic5) ?_
  refine ex_s (fun _ => ev_iload_n dX12_does_27 rfl) ?_
  refine ex_s (fun _ => ev_imul dX12_does_28) ?_
  first | refine ex_s (fun _ => ev_top (pk_mul _ _)) ?_ | skip
  refine ex_s (fun _ => ev_iaload dX12_does_29 rfl (by omega) (by decide) sh124) ?_
  refine ex_s (fun _ => ev_top hd0) ?_
  refine ex_s (fun _ => ev_tableIn (tgt := 140) (off := 110) dX12_does_30 (by decide) (by decide) (by decide +kernel) (by decide)) ?_
  refine ex_s (fun _ => ev_iload_n dX12_does_140 rfl) ?_
  refine ex_s (fun _ => ev_callS kX12_78 (qX12_isCell_y hc) dX12_does_141 rfl (by decide) (by decide) rfl) ?_
  refine ex_s (fun _ => ev_if_eq_f (tgt := 177) dX12_does_144 (by decide) (by decide)) ?_
  refine ex_s (fun _ => ev_aload_n dX12_does_147 rfl) ?_
  refine ex_s (fun _ => ev_iload_n dX12_does_148 rfl) ?_
  refine ex_s (fun _ => ev_aload_n dX12_does_149 rfl) ?_
  refine ex_s (fun _ => ev_getR fX12_40 dX12_does_150 (by decide) sh115 rfl) ?_
  refine ex_s (fun _ => ev_iconst dX12_does_153 ic5) ?_
  refine ex_s (fun _ => ev_iload_n dX12_does_154 rfl) ?_
  refine ex_s (fun _ => ev_imul dX12_does_155) ?_
  first | refine ex_s (fun _ => ev_top (pk_mul _ _)) ?_ | skip
  refine ex_s (fun _ => ev_iconst dX12_does_156 ic4) ?_
  refine ex_s (fun _ => ev_iadd dX12_does_157) ?_
  first | refine ex_s (fun _ => ev_top (nI_add _ _)) ?_ | skip
  refine ex_s (fun _ => ev_iaload dX12_does_158 rfl (by omega) (by decide) sh124) ?_
  refine ex_s (fun _ => ev_top hd4) ?_
  refine ex_s (fun _ => ev_iload_n dX12_does_159 rfl) ?_
  refine ex_s (fun _ => ev_aload_n dX12_does_160 rfl) ?_
  refine ex_s (fun _ => ev_getR fX12_40 dX12_does_161 (by decide) sh115 rfl) ?_
  refine ex_s (fun _ => ev_iconst dX12_does_164 ic5) ?_
  refine ex_s (fun _ => ev_iload_n dX12_does_165 rfl) ?_
  refine ex_s (fun _ => ev_imul dX12_does_166) ?_
  first | refine ex_s (fun _ => ev_top (pk_mul _ _)) ?_ | skip
  refine ex_s (fun _ => ev_iconst dX12_does_167 ic3) ?_
  refine ex_s (fun _ => ev_iadd dX12_does_168) ?_
  first | refine ex_s (fun _ => ev_top (nI_add _ _)) ?_ | skip
  refine ex_s (fun _ => ev_iaload dX12_does_169 rfl (by omega) (by decide) sh124) ?_
  refine ex_s (fun _ => ev_top hd3) ?_
  refine ex_s (fun _ => ev_iconst dX12_does_170 ic4) ?_
  obtain ⟨_, w2, hp, hB⟩ := qX12_draws (G := G) hS hc (t := v) (fr := fr) (l := l) (ds := ds) (by omega) q3 q4 (by omega) (fun j hj => by
    have e := hst j hj
    unfold stp at e
    split at e
    · rename_i hlt
      exact ⟨⟨t (fr + j), by have := (htx (fr + j) hlt).2.2; omega, (htx (fr + j) hlt).1, e⟩, q5 j hj⟩
    · cases e)
  obtain ⟨v2, rfl, -⟩ := id hp.1
  refine ex_s (fun _ => ev_callV kX12_132 co115 hB dX12_does_171 rfl (by decide) (by decide) rfl) ?_
  refine ex_s (fun _ => ev_goto (tgt := 182) dX12_does_174 (by decide)) ?_
  refine ex_s (fun _ => ev_ist4 dX12_does_182 (by decide) rfl) ?_
  refine ex_s (fun _ => ev_goto (tgt := 215) dX12_does_184 (by decide)) ?_
  exact ⟨_, _, (by exact pDs_y (show thC S (.inr (.inr (.inr (.inl (c, v, l, ds))))) = true from by simp [thC]; omega) (by decide) (by decide) hp), ev_vret dX12_does_215 rfl rfl rfl⟩
set_option maxRecDepth 4000 in
theorem qX12_does_rn {G : GX} {w : WS} {S : ST} (hS : mR S w) {n : Nat} {t : Nat → Nat} {k : Nat} (hk : k < 60) (hn : n ≤ 60) (htx : ∀ i, i < n → w.1 123 i = nI (t i) ∧ 32 ≤ t i ∧ t i ≤ 126) {c v l : Nat} {ds : Nat → Nat} (hc : ¬ c < 64) (hq : okC (.inr (.inr (.inr (.inl (c, v, l, ds)))))) (hd : hDf n t (w.1 124) k (.inr (.inr (.inr (.inl (c, v, l, ds)))))) : ∃ o w2, (pDs S (.inr (.inr (.inr (.inl (c, v, l, ds))))) w o w2) ∧ Big G 8 0 mX12_does [.ref 115, .int (nI k)] w o w2 := by
  obtain ⟨hd0, hd1, hd3, hd4, fr, hd2, hfr, hst⟩ := id hd
  obtain ⟨q1, q2, q3, q4, q5⟩ := id hq
  refine bx_of (P := pDs S (.inr (.inr (.inr (.inl (c, v, l, ds))))) w) (by decide +kernel) (Nat.le_of_ble_eq_true rfl) ?_
  show Ex G 8 0 mX12_does 0 [some (.ref 115), some (.int (nI k)), none, none, none] [] w _
  refine ex_s (fun _ => ev_aload_n dX12_does_0 rfl) ?_
  refine ex_s (fun _ => ev_getR fX12_40 dX12_does_1 (by decide) sh115 rfl) ?_
  refine ex_s (fun _ => ev_iconst dX12_does_4 ic5) ?_
  refine ex_s (fun _ => ev_iload_n dX12_does_5 rfl) ?_
  refine ex_s (fun _ => ev_imul dX12_does_6) ?_
  first | refine ex_s (fun _ => ev_top (pk_mul _ _)) ?_ | skip
  refine ex_s (fun _ => ev_iconst dX12_does_7 ic1) ?_
  refine ex_s (fun _ => ev_iadd dX12_does_8) ?_
  first | refine ex_s (fun _ => ev_top (nI_add _ _)) ?_ | skip
  refine ex_s (fun _ => ev_iaload dX12_does_9 rfl (by omega) (by decide) sh124) ?_
  refine ex_s (fun _ => ev_top hd1) ?_
  refine ex_s (fun _ => ev_ist2 dX12_does_10 (by decide) rfl) ?_
  refine ex_s (fun _ => ev_aload_n dX12_does_11 rfl) ?_
  refine ex_s (fun _ => ev_getR fX12_40 dX12_does_12 (by decide) sh115 rfl) ?_
  refine ex_s (fun _ => ev_iconst dX12_does_15 ic5) ?_
  refine ex_s (fun _ => ev_iload_n dX12_does_16 rfl) ?_
  refine ex_s (fun _ => ev_imul dX12_does_17) ?_
  first | refine ex_s (fun _ => ev_top (pk_mul _ _)) ?_ | skip
  refine ex_s (fun _ => ev_iconst dX12_does_18 ic2) ?_
  refine ex_s (fun _ => ev_iadd dX12_does_19) ?_
  first | refine ex_s (fun _ => ev_top (nI_add _ _)) ?_ | skip
  refine ex_s (fun _ => ev_iaload dX12_does_20 rfl (by omega) (by decide) sh124) ?_
  refine ex_s (fun _ => ev_top hd2) ?_
  refine ex_s (fun _ => ev_ist3 dX12_does_21 (by decide) rfl) ?_
  refine ex_s (fun _ => ev_aload_n dX12_does_22 rfl) ?_
  refine ex_s (fun _ => ev_getR fX12_40 dX12_does_23 (by decide) sh115 rfl) ?_
  refine ex_s (fun _ => ev_iconst dX12_does_26 ic5) ?_
  refine ex_s (fun _ => ev_iload_n dX12_does_27 rfl) ?_
  refine ex_s (fun _ => ev_imul dX12_does_28) ?_
  first | refine ex_s (fun _ => ev_top (pk_mul _ _)) ?_ | skip
  refine ex_s (fun _ => ev_iaload dX12_does_29 rfl (by omega) (by decide) sh124) ?_
  refine ex_s (fun _ => ev_top hd0) ?_
  refine ex_s (fun _ => ev_tableIn (tgt := 140) (off := 110) dX12_does_30 (by decide) (by decide) (by decide +kernel) (by decide)) ?_
  refine ex_s (fun _ => ev_iload_n dX12_does_140 rfl) ?_
  refine ex_s (fun _ => ev_callS kX12_78 (qX12_isCell_n (Or.inr (nI_le (by omega) (by omega)))) dX12_does_141 rfl (by decide) (by decide) rfl) ?_
  refine ex_s (fun _ => ev_if_eq_t (tgt := 177) dX12_does_144 (by decide) rfl) ?_
  refine ex_s (fun _ => ev_aload_n dX12_does_177 rfl) ?_
  refine ex_s (fun _ => ev_iconst dX12_does_178 ic1) ?_
  refine ex_s (fun _ => ev_callV kX12_82 co115 qX12_fails dX12_does_179 rfl (by decide) (by decide) rfl) ?_
  refine ex_s (fun _ => ev_ist4 dX12_does_182 (by decide) rfl) ?_
  refine ex_s (fun _ => ev_goto (tgt := 215) dX12_does_184 (by decide)) ?_
  exact ⟨_, _, (by exact pDs_n (show thC S (.inr (.inr (.inr (.inl (c, v, l, ds))))) = false from by simp [thC]; omega) (k := 1) (by decide) (by decide)), ev_vret dX12_does_215 rfl rfl rfl⟩
theorem qX12_does {G : GX} {w : WS} {S : ST} (hS : mR S w) {n : Nat} {t : Nat → Nat} {k : Nat} (hk : k < 60) (hn : n ≤ 60) (htx : ∀ i, i < n → w.1 123 i = nI (t i) ∧ 32 ≤ t i ∧ t i ≤ 126) {q : Cmd} (hq : okC q) (hd : hDf n t (w.1 124) k q) : ∃ o w2, pDs S q w o w2 ∧ Big G 8 0 mX12_does [.ref 115, .int (nI k)] w o w2 := by
  rcases q with ⟨c, v⟩ | ⟨c, r⟩ | a | ⟨c, v, l, ds⟩ | i | ⟨c, p⟩ | i
  · by_cases hc : c < 64
    · exact qX12_does_py hS hk hc hq hd
    · exact qX12_does_pn hS hk hc hq hd
  · by_cases hc : c < 64
    · exact qX12_does_sy hS hk hc hq hd
    · exact qX12_does_sn hS hk hc hq hd
  · by_cases hc : 1 ≤ a ∧ a ≤ 9
    · exact qX12_does_my hS hk hc hq hd
    · exact qX12_does_mn hS hk hc hq hd
  · by_cases hc : c < 64
    · exact qX12_does_ry hS hk hn htx hc hq hd
    · exact qX12_does_rn hS hk hn htx hc hq hd
  · by_cases hc : i < nR S
    · exact qX12_does_ky hS hk hc hq hd
    · exact qX12_does_kn hS hk hc hq hd
  · by_cases hc : c < 64
    · by_cases hc2 : 1 ≤ p ∧ p ≤ 50
      · exact qX12_does_dy hS hk ⟨hc, hc2⟩ hq hd
      · exact qX12_does_dq hS hk hc hc2 hq hd
    · exact qX12_does_dn hS hk hc hq hd
  · by_cases hc : i < nD S
    · exact qX12_does_fy hS hk hc hq hd
    · exact qX12_does_fn hS hk hc hq hd
