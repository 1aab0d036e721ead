/-! the reference: a text carried out -/
theorem sr_1 {A : AS} {k : Nat} (h : fErr (aN A) (aT A) 60 0 = some k) : spRead A = ((1, 0), mkA (aS A) (aV A) (aH A) 0 (aT A) (aL A) (aK A) (some k)) := by unfold spRead; rw [h]
theorem sr_2 {A : AS} {T : ST} (h : fErr (aN A) (aT A) 60 0 = none) (hr : rnC (aS A) 0 (cms (aN A) (aT A) 60 0) = (-1, T, none)) : spRead A = ((2, 0), aC A) := by unfold spRead; rw [h, hr]; dsimp only; rw [if_pos rfl]
theorem sr_3 {A : AS} {T : ST} {K : List (Int32 × Int32)} (h : fErr (aN A) (aT A) 60 0 = none) (hr : rnC (aS A) 0 (cms (aN A) (aT A) 60 0) = (-2, T, some K)) : spRead A = ((3, 0), mkA (aS A) (aV A) (aH A) 0 (aT A) (aL A) K (aE A)) := by unfold spRead; rw [h, hr]
theorem sr_0 {A : AS} {T : ST} {c : Nat} (h : fErr (aN A) (aT A) 60 0 = none) (hr : rnC (aS A) 0 (cms (aN A) (aT A) 60 0) = (nI c, T, none)) (hc : c < 100) : spRead A = ((0, nI c), mkA T (aV A) (hPush (aH A) (aS A)) 0 (aT A) (aL A) (aK A) (aE A)) := by unfold spRead; rw [h, hr]; dsimp only; rw [if_neg (nI_m1 (by omega))]
theorem mX_Q {A : AS} {w x : WS} {z : Option Nat} (h : mX A w) (h3 : x.1 115 3 = w.1 115 3) (h5 : x.1 115 5 = w.1 115 5) (h11 : x.1 115 11 = w.1 115 11) (h13 : x.1 115 13 = nI 0) (h16 : x.1 115 16 = oI z) (hz : ∀ p, z = some p → p ≤ 60) (hf : frG [(115, 115), (124, 124)] w x) : mX (mkA (aS A) (aV A) (aH A) 0 (aT A) (aL A) (aK A) z) x := by
  obtain ⟨g1, g2, g3, g4, g5, g6, g7, g8⟩ := h
  have e118 := frG_at hf (k := 118) (by decide)
  have e119 := frG_at hf (k := 119) (by decide)
  have e120 := frG_at hf (k := 120) (by decide)
  have e122 := frG_at hf (k := 122) (by decide)
  refine ⟨mRe g1 (frG_at hf (by decide)), ⟨fun z => h3.trans (g2.1 z), fun V hV => ⟨h3.trans (g2.2 V hV).1, by rw [e118]; exact (g2.2 V hV).2.1, (g2.2 V hV).2.2⟩⟩, ⟨h5.trans g3.1, g3.2.1, fun i V hV => ⟨by rw [e119]; exact (g3.2.2 i V hV).1, (g3.2.2 i V hV).2⟩⟩, ⟨h13, Nat.zero_le _, fun i hi => absurd hi (Nat.not_lt_zero _)⟩, ⟨h11.trans g5.1, g5.2.1, fun i v hv => by rw [e122]; exact g5.2.2 i v hv⟩, by show rsn (aK A) (x.1 120); rw [e120]; exact g6, h16, hz⟩
theorem kb_q {A : AS} {w b y : WS} (h : KB A w b) {K : List (Int32 × Int32)} {k : Nat} (hf : frG [(115, 116), (120, 120)] b y) (he : ∀ j, j ≠ 6 → j ≠ 8 → y.1 115 j = b.1 115 j) (hK : rsn K (y.1 120)) (h6 : y.1 115 6 = nI k) (h1 : 1 ≤ k) : pMo ((k, 0), mkA (aS A) (aV A) (aH A) (aN A) (aT A) (aL A) K (aE A)) w (.inl (some (.int (nI 0)))) (wBk y) := by
  obtain ⟨g1, g2, g3, g4⟩ := h
  refine ⟨_, rfl, fun z => absurd z (by show ¬ k = 0; omega), h6, ?_, frG_tr g4 (frG_cs (frG_mo hf (by decide)) (by decide) _)⟩
  obtain ⟨f1, f2, f3, f4, f5, f6, f7, f8⟩ := g1
  have hb : rA (aS A) (y.1 117) := by rw [frG_at hf (by decide)]; exact g3
  refine ⟨bk_r hb f1.2, ⟨fun z => (he 3 (by decide) (by decide)).trans (f2.1 z), fun V hV => ⟨(he 3 (by decide) (by decide)).trans (f2.2 V hV).1, (by show rA V (y.1 118); rw [frG_at hf (by decide)]; exact (f2.2 V hV).2.1), (f2.2 V hV).2.2⟩⟩, ⟨(he 5 (by decide) (by decide)).trans f3.1, f3.2.1, fun i V hV => ⟨(by show rA V (fun k => y.1 119 (158 * i + k)); rw [frG_at hf (by decide)]; exact (f3.2.2 i V hV).1), (f3.2.2 i V hV).2⟩⟩, ⟨(he 13 (by decide) (by decide)).trans f4.1, f4.2.1, fun i hi => (by show y.1 123 i = _ ∧ _; rw [frG_at hf (by decide)]; exact f4.2.2 i hi)⟩, ⟨(he 11 (by decide) (by decide)).trans f5.1, f5.2.1, fun i v hv => (by show y.1 122 i = _ ∧ _; rw [frG_at hf (by decide)]; exact f5.2.2 i v hv)⟩, hK, (he 16 (by decide) (by decide)).trans f7, f8⟩
theorem kb_8 {A : AS} {w b : WS} (h : KB A w b) (v : Int32) : KB A w (cs_ b 115 (upd (b.1 115) 8 v)) := ⟨mX_e h.1 rfl rfl rfl rfl rfl rfl (frG_cs frG_rf (by decide) _), h.2.1, h.2.2.1, frG_tr h.2.2.2 (frG_cs frG_rf (by decide) _)⟩
theorem fr_8 {b x : WS} (h : frG [(116, 116)] b x) (v : Int32) : frG [(116, 116)] (cs_ b 115 (upd (b.1 115) 8 v)) (cs_ x 115 (upd (x.1 115) 8 v)) := ⟨fun k hk => by
  by_cases e : k = 115
  · subst e
    rw [cs_same, cs_same, frG_at h (by decide)]
  · rw [cs_ne _ _ e, cs_ne _ _ e]
    exact h.1 k hk, h.2⟩
/-- a reason put before others -/
theorem rsn_p {K : List (Int32 × Int32)} {f : Nat → Int32} (h : rsn K f) (hl : K.length ≤ 2) (hz : K.length = 0 → False) {a b : Int32} (ha : a ≠ 0) : rsn ((a, b) :: K) (upd (upd (va_cpy f f 0 2 4) 0 a) 1 b) := by
  obtain ⟨h1, h2, h3⟩ := h
  have hc : ∀ j, j < 4 → upd (upd (va_cpy f f 0 2 4) 0 a) 1 b (j + 2) = f j := fun j hj => by
    rw [pk_un (by omega), pk_un (by omega), pk_cpy_in (by omega) (by omega)]
    congr 1
    omega
  refine ⟨by rw [List.length_cons]; omega, fun i x hx => ?_, fun i hi hl2 => ?_⟩
  · cases i with
    | zero => cases hx; exact ⟨rfl, rfl, ha⟩
    | succ i =>
      rw [List.getElem?_cons_succ] at hx
      have hi : i < K.length := (List.getElem?_eq_some_iff.mp hx).1
      rw [show 2 * (i + 1) = 2 * i + 2 by omega, show 2 * i + 2 + 1 = 2 * i + 1 + 2 by omega, hc _ (by omega), hc _ (by omega)]
      exact h2 i x hx
  · rw [List.length_cons] at hl2
    cases i with
    | zero => omega
    | succ i =>
      rw [show 2 * (i + 1) = 2 * i + 2 by omega, hc _ (by omega)]
      exact h3 i (by omega) (by omega)
theorem kpC_2 {S : ST} {q : Cmd} : (kpC S q).length ≤ 2 ∧ ((kpC S q).length = 0 → False) := by
  unfold kpC
  split <;> simp
theorem hDf_lt {n : Nat} {t : Nat → Nat} {f g : Nat → Int32} {m i : Nat} (h : ∀ j, j < 5 * m → g j = f j) (hi : i < m) {c : Cmd} (hc : hDf n t f i c) : hDf n t g i c := by
  have e0 := h (5 * i) (by omega)
  have e1 := h (5 * i + 1) (by omega)
  have e2 := h (5 * i + 2) (by omega)
  have e3 := h (5 * i + 3) (by omega)
  have e4 := h (5 * i + 4) (by omega)
  rcases c with ⟨c, v⟩ | ⟨c, r⟩ | a | ⟨c, v, l, ds⟩ | i2 | ⟨c, p⟩ | i2
  · exact ⟨e0.trans hc.1, e1.trans hc.2.1, e2.trans hc.2.2⟩
  · exact ⟨e0.trans hc.1, e1.trans hc.2.1, e2.trans hc.2.2⟩
  · exact ⟨e0.trans hc.1, e1.trans hc.2⟩
  · obtain ⟨h0, h1, h3, h4, fr, h2, h5⟩ := hc
    exact ⟨e0.trans h0, e1.trans h1, e3.trans h3, e4.trans h4, fr, e2.trans h2, h5⟩
  · exact ⟨e0.trans hc.1, e1.trans hc.2⟩
  · exact ⟨e0.trans hc.1, e1.trans hc.2.1, e2.trans hc.2.2⟩
  · exact ⟨e0.trans hc.1, e1.trans hc.2⟩
theorem ex_mo {G : GX} {d b : Nat} {M : MT} {pc : Nat} {ls : List (Option Value)} {st : List Value} {w y x : WS} {r : (Nat × Int32) × AS} (hf : frG [(115, 124)] w y) (h : Ex G d b M pc ls st x (pMo r y)) : Ex G d b M pc ls st x (pMo r w) := by
  obtain ⟨o, w2, ⟨v, h1, h2, h3, h4, h5⟩, he⟩ := h
  exact ⟨o, w2, ⟨v, h1, h2, h3, h4, frG_tr hf h5⟩, he⟩
theorem cms_ok {n : Nat} {t : Nat → Nat} : ∀ {f p : Nat}, p ≤ n → ∀ (i : Nat) (c : Cmd), (cms n t f p)[i]? = some c → okC c := by
  intro f
  induction f with
  | zero => intro p hp i c h; rw [cms] at h; simp at h
  | succ f ih =>
    intro p hp i c h
    rw [cms] at h
    obtain ⟨y, q, e⟩ : ∃ y q, cmdAt n t p = (y, q) := ⟨_, _, rfl⟩
    have hb := cmdAt_ok e hp
    rw [e] at h
    cases y with
    | none => simp at h
    | some d =>
      dsimp only at h
      split at h
      · cases i with
        | zero => cases h; exact (hb.2.2 _ rfl).1
        | succ i => simp at h
      · cases i with
        | zero => cases h; exact (hb.2.2 _ rfl).1
        | succ i =>
          rw [List.getElem?_cons_succ] at h
          exact ih (by have := hb.2.1; omega) i c h
theorem gX12_orders {G : GX} {w : WS} {A : AS} (h : mX A w) (he0 : fErr (aN A) (aT A) 60 0 = none) {y : WS} {f2 : Nat → Int32} (hyy : mX (aC A) y) (htx : ∀ i, i < aN A → y.1 123 i = nI (aT A i) ∧ 32 ≤ aT A i ∧ aT A i ≤ 126) (h24 : y.1 124 = f2) (h18 : y.1 115 18 = nI (cms (aN A) (aT A) 60 0).length) (hrow : ∀ i c, (cms (aN A) (aT A) 60 0)[i]? = some c → hDf (aN A) (aT A) f2 i c) : Ex G 10 0 mX12_read 114 [some (.ref 115), none] [] y (pMo (spRead A) y) := by
  have lq : ∀ (L : List Cmd) (k : Nat) (S : ST) (x b : WS), (∀ i c, L[i]? = some c → hDf (aN A) (aT A) f2 (k + i) c ∧ okC c) → x.1 115 18 = nI (k + L.length) → KB (aC A) y b → frG [(116, 116)] b x → mR S x → x.1 124 = f2 → (∀ i, i < aN A → x.1 123 i = nI (aT A i) ∧ 32 ≤ aT A i ∧ aT A i ≤ 126) → rnC (aS A) 0 (cms (aN A) (aT A) 60 0) = rnC S k L → k + L.length ≤ 60 → Ex G 10 0 mX12_read 120 [some (.ref 115), some (.int (nI k))] [] x (pMo (spRead A) y) := by
    intro L
    induction L with
    | nil =>
      intro k S x b hrow h18 hb hf hm h24 htx hrn hl
      have hl : k ≤ 60 := hl
      obtain ⟨j1, j2, j3⟩ := kb_e hb hm hf
      have e15 : x.1 115 = b.1 115 := frG_at hf (by decide)
      have hsp := sr_0 (T := S) (c := k) he0 hrn (by omega)
      refine ex_s (fun _ => ev_iload_n dX12_read_120 rfl) ?_
      refine ex_s (fun _ => ev_aload_n dX12_read_121 rfl) ?_
      refine ex_s (fun _ => ev_getI fX12_254 dX12_read_122 (by decide) sh115 rfl) ?_
      refine ex_s (fun _ => ev_top (h18 : _ = nI k)) ?_
      refine ex_s (fun _ => ev_icmp_ge_t (tgt := 208) dX12_read_125 (by decide) (Int32.le_refl _)) ?_
      refine ex_s (fun _ => ev_aload_n dX12_read_208 rfl) ?_
      refine ex_s (fun _ => ev_aload_n dX12_read_209 rfl) ?_
      refine ex_s (fun _ => ev_getI fX12_254 dX12_read_210 (by decide) sh115 rfl) ?_
      refine ex_s (fun _ => ev_top (h18 : _ = nI k)) ?_
      refine ex_s (fun _ => ev_callV kX12_100 co115 (qX12_ends_y (m := (aH A).length) (by rw [e15]; exact hb.2.1) (by rw [e15]; exact hb.1.2.2.1.1) hb.1.2.2.1.2.1) dX12_read_213 rfl (by decide) (by decide) rfl) ?_
      exact ⟨_, _, (by rw [hsp]; exact ⟨_, rfl, fun _ => rfl, j2, j1, j3⟩), ev_iret dX12_read_216 rfl rfl rfl rfl⟩
    | cons q L ih =>
      intro k S x b hrow h18 hb hf hm h24 htx hrn hl
      have h0 := hrow 0 q rfl
      have hl2 : k + (L.length + 1) ≤ 60 := hl
      have hb1 := kb_8 hb (nI 0)
      have f1 := fr_8 hf (nI 0)
      obtain ⟨_, x2, ⟨rfl, hn, hy⟩, hB2⟩ := qX12_does (G := G) (w := cs_ x 115 (upd (x.1 115) 8 (nI 0))) (S := S) hm (k := k) (by omega) (n := aN A) (t := aT A) h.2.2.2.1.2.1 htx (q := q) h0.2 (by show hDf _ _ (x.1 124) k q; rw [h24]; exact h0.1)
      refine ex_s (fun _ => ev_iload_n dX12_read_120 rfl) ?_
      refine ex_s (fun _ => ev_aload_n dX12_read_121 rfl) ?_
      refine ex_s (fun _ => ev_getI fX12_254 dX12_read_122 (by decide) sh115 rfl) ?_
      refine ex_s (fun _ => ev_top h18) ?_
      refine ex_s (fun _ => ev_icmp_ge_f (tgt := 208) dX12_read_125 (by decide) (nI_ge (by rw [List.length_cons]; omega) (by rw [List.length_cons]; omega))) ?_
      refine ex_s (fun _ => ev_aload_n dX12_read_128 rfl) ?_
      refine ex_s (fun _ => ev_iconst dX12_read_129 ic0) ?_
      refine ex_s (fun _ => ev_put fX12_59 dX12_read_130 rfl rfl (by decide) sh115 rfl) ?_
      refine ex_s (fun _ => ev_aload_n dX12_read_133 rfl) ?_
      refine ex_s (fun _ => ev_iload_n dX12_read_134 rfl) ?_
      refine ex_s (fun _ => ev_callV kX12_263 co115 hB2 dX12_read_135 rfl (by decide) (by decide) rfl) ?_
      cases ht0 : thC S q with
      | false =>
        obtain ⟨k9, h91, h99, rfl⟩ := hn ht0
        have hsp := sr_2 he0 (hrn.trans (show rnC S k (q :: L) = (-1, S, none) from by rw [rnC, if_pos ht0]))
        refine ex_s (fun _ => ev_aload_n dX12_read_138 rfl) ?_
        refine ex_s (fun _ => ev_getI fX12_43 dX12_read_139 (by decide) sh115 rfl) ?_
        refine ex_s (fun _ => ev_top (y := nI k9) rfl) ?_
        refine ex_s (fun _ => ev_if_le_f (tgt := 202) dX12_read_142 (by decide) (fun z => by have := (le0 (by omega)).mp z; omega)) ?_
        refine ex_s (fun _ => ev_aload_n dX12_read_145 rfl) ?_
        refine ex_s (fun _ => ev_getI fX12_59 dX12_read_146 (by decide) sh115 rfl) ?_
        refine ex_s (fun _ => ev_top (y := nI 0) rfl) ?_
        refine ex_s (fun _ => ev_if_eq_t (tgt := 181) dX12_read_149 (by decide) rfl) ?_
        refine ex_s (fun _ => ev_aload_n dX12_read_181 rfl) ?_
        refine ex_s (fun _ => ev_aload_n dX12_read_182 rfl) ?_
        refine ex_s (fun _ => ev_aload_n dX12_read_183 rfl) ?_
        refine ex_s (fun _ => ev_getI fX12_59 dX12_read_184 (by decide) sh115 rfl) ?_
        refine ex_s (fun _ => ev_top (y := nI 0) rfl) ?_
        refine ex_s (fun _ => ev_if_eq_t (tgt := 194) dX12_read_187 (by decide) rfl) ?_
        refine ex_s (fun _ => ev_iconst dX12_read_194 ic2) ?_
        refine ex_s (fun _ => ev_callV kX12_82 co115 qX12_fails dX12_read_195 rfl (by decide) (by decide) rfl) ?_
        refine ex_s (fun _ => ev_callV kX12_100 co115 (qX12_ends_n (k := 2) rfl (by decide) (by decide)) dX12_read_198 rfl (by decide) (by decide) rfl) ?_
        exact ⟨_, _, (by rw [hsp]; exact kb_q hb1 (k := 2) (frG_tr (frG_mo f1 (by decide)) (frG_cs (frG_cs frG_rf (by decide) _) (by decide) _)) (fun j a c => (show upd (upd ((cs_ x 115 (upd (x.1 115) 8 (nI 0))).1 115) 6 (nI k9)) 6 (nI 2) j = _ from by rw [pk_un a, pk_un a, frG_at f1 (by decide)])) (by have q6 := hb1.1.2.2.2.2.2.1; rw [← frG_at f1 (k := 120) (by decide)] at q6; exact q6) rfl (by decide)), ev_iret dX12_read_201 rfl rfl rfl rfl⟩
      | true =>
        obtain ⟨e, o2, he1, he9, hp⟩ := hy ht0
        obtain ⟨-, hp1, hp2⟩ := hp
        by_cases hg : grC S q = 0
        · skip
          obtain ⟨j1, j2⟩ := hp2 hg
          have e15 : x2.1 115 = (cs_ x 115 (upd (x.1 115) 8 (nI 0))).1 115 := frG_at j2 (by decide)
          have e6 : x2.1 115 6 = nI 0 := by rw [e15, frG_at f1 (by decide)]; exact hb1.2.1
          refine ex_s (fun _ => ev_aload_n dX12_read_138 rfl) ?_
          refine ex_s (fun _ => ev_getI fX12_43 dX12_read_139 (by decide) sh115 rfl) ?_
          refine ex_s (fun _ => ev_top (e6 : _ = nI 0)) ?_
          refine ex_s (fun _ => ev_if_le_t (tgt := 202) dX12_read_142 (by decide) (by decide)) ?_
          refine ex_s (fun _ => ev_iinc1 dX12_read_202 (nI_inc _) (by decide) rfl) ?_
          refine ex_s (fun _ => ev_goto (tgt := 120) dX12_read_205 (by decide)) ?_
          refine ih (k + 1) (cdo S q) _ _ (fun i c hc => ?_) (by rw [e15, show k + 1 + L.length = k + (q :: L).length by rw [List.length_cons]; omega]; exact h18) hb1 (frG_tr f1 j2) j1 ?_ ?_ ?_ (by rw [List.length_cons] at hl; omega)
          · rw [show k + 1 + i = k + (i + 1) by omega]; exact hrow (i + 1) c (by rw [List.getElem?_cons_succ]; exact hc)
          · rw [frG_at j2 (by decide)]; exact h24
          · intro i hi2; rw [frG_at j2 (by decide)]; exact htx i hi2
          · rw [hrn, rnC, if_neg (by rw [ht0]; decide), if_neg (fun z => z hg)]
        · skip
          have hsp := sr_3 he0 (hrn.trans (show rnC S k (q :: L) = (-2, S, some ((nI 10, nI k) :: kpC S q)) from by rw [rnC, if_neg (by rw [ht0]; decide), if_pos hg]))
          obtain ⟨j1, j2, j3, j4⟩ := hp1 hg
          have e6 : x2.1 115 6 = nI e := by rw [j2]; rfl
          have e8 : x2.1 115 8 = nI 1 := by rw [j2]; rfl
          refine ex_s (fun _ => ev_aload_n dX12_read_138 rfl) ?_
          refine ex_s (fun _ => ev_getI fX12_43 dX12_read_139 (by decide) sh115 rfl) ?_
          refine ex_s (fun _ => ev_top (e6 : _ = nI e)) ?_
          refine ex_s (fun _ => ev_if_le_f (tgt := 202) dX12_read_142 (by decide) (fun z => by have := (le0 (by omega)).mp z; omega)) ?_
          refine ex_s (fun _ => ev_aload_n dX12_read_145 rfl) ?_
          refine ex_s (fun _ => ev_getI fX12_59 dX12_read_146 (by decide) sh115 rfl) ?_
          refine ex_s (fun _ => ev_top (e8 : _ = nI 1)) ?_
          refine ex_s (fun _ => ev_if_eq_f (tgt := 181) dX12_read_149 (by decide) (by decide)) ?_
          refine ex_s (fun _ => ev_aload_n dX12_read_152 rfl) ?_
          refine ex_s (fun _ => ev_getR fX12_22 dX12_read_153 (by decide) sh115 rfl) ?_
          refine ex_s (fun _ => ev_iconst dX12_read_156 ic0) ?_
          refine ex_s (fun _ => ev_aload_n dX12_read_157 rfl) ?_
          refine ex_s (fun _ => ev_getR fX12_22 dX12_read_158 (by decide) sh115 rfl) ?_
          refine ex_s (fun _ => ev_iconst dX12_read_161 ic2) ?_
          refine ex_s (fun _ => ev_iconst dX12_read_162 ic4) ?_
          refine ex_s (fun _ => ev_copy aX12_46 dX12_read_163 rfl rfl rfl (by decide) (by decide) sh120 sh120 (by omega) (by omega) rfl) ?_
          refine ex_s (fun _ => ev_aload_n dX12_read_166 rfl) ?_
          refine ex_s (fun _ => ev_getR fX12_22 dX12_read_167 (by decide) sh115 rfl) ?_
          refine ex_s (fun _ => ev_iconst dX12_read_170 ic0) ?_
          refine ex_s (fun _ => ev_bipush (v := nI 10) dX12_read_171 (by decide)) ?_
          refine ex_s (fun _ => ev_iastore dX12_read_173 rfl (by omega) rfl (by decide) sh120) ?_
          refine ex_s (fun _ => ev_aload_n dX12_read_174 rfl) ?_
          refine ex_s (fun _ => ev_getR fX12_22 dX12_read_175 (by decide) sh115 rfl) ?_
          refine ex_s (fun _ => ev_iconst dX12_read_178 ic1) ?_
          refine ex_s (fun _ => ev_iload_n dX12_read_179 rfl) ?_
          refine ex_s (fun _ => ev_iastore dX12_read_180 rfl (by omega) rfl (by decide) sh120) ?_
          refine ex_s (fun _ => ev_aload_n dX12_read_181 rfl) ?_
          refine ex_s (fun _ => ev_aload_n dX12_read_182 rfl) ?_
          refine ex_s (fun _ => ev_aload_n dX12_read_183 rfl) ?_
          refine ex_s (fun _ => ev_getI fX12_59 dX12_read_184 (by decide) sh115 rfl) ?_
          refine ex_s (fun _ => ev_top (e8 : _ = nI 1)) ?_
          refine ex_s (fun _ => ev_if_eq_f (tgt := 194) dX12_read_187 (by decide) (by decide)) ?_
          refine ex_s (fun _ => ev_iconst dX12_read_190 ic3) ?_
          refine ex_s (fun _ => ev_goto (tgt := 195) dX12_read_191 (by decide)) ?_
          refine ex_s (fun _ => ev_callV kX12_82 co115 qX12_fails dX12_read_195 rfl (by decide) (by decide) rfl) ?_
          refine ex_s (fun _ => ev_callV kX12_100 co115 (qX12_ends_n (k := 3) rfl (by decide) (by decide)) dX12_read_198 rfl (by decide) (by decide) rfl) ?_
          exact ⟨_, _, (by rw [hsp]; exact kb_q hb1 (k := 3) (frG_tr (frG_tr (frG_mo f1 (by decide)) j4) (frG_cs (frG_cs (frG_cs (frG_cs frG_rf (by decide) _) (by decide) _) (by decide) _) (by decide) _)) (fun j a c => (show upd (x2.1 115) 6 (nI 3) j = _ from by rw [pk_un a, j2, pk_un c, pk_un a, frG_at f1 (by decide)])) (rsn_p j3 kpC_2.1 kpC_2.2 (by decide)) rfl (by decide)), ev_iret dX12_read_201 rfl rfl rfl rfl⟩
  refine ex_s (fun _ => ev_aload_n dX12_read_114 rfl) ?_
  refine ex_s (fun _ => ev_callV kX12_93 co115 qX12_keep dX12_read_115 rfl (by decide) (by decide) rfl) ?_
  refine ex_s (fun _ => ev_iconst dX12_read_118 ic0) ?_
  refine ex_s (fun _ => ev_ist1 dX12_read_119 (by decide) rfl) ?_
  refine lq _ 0 (aS A) _ _ (fun i c hc => ⟨by rw [Nat.zero_add]; exact hrow i c hc, cms_ok (Nat.zero_le _) i c hc⟩) (by rw [Nat.zero_add]; exact h18) (kb_0 hyy) frG_rf hyy.1 h24 htx rfl (by have := cms_le (aN A) (aT A) 60 0; omega)
set_option maxRecDepth 4000 in
theorem gX12_read {G : GX} {w : WS} {A : AS} (h : mX A w) : ∃ o w2, (pMo (spRead A) w o w2) ∧ Big G 10 0 mX12_read [.ref 115] w o w2 := by
  have hi := h.2.2.2.1
  have hn6 := hi.2.1
  refine bx_of (P := pMo (spRead A) w) (by decide +kernel) (Nat.le_of_ble_eq_true rfl) ?_
  show Ex G 10 0 mX12_read 0 [some (.ref 115), none] [] w _
  refine ex_s (fun _ => ev_aload_n dX12_read_0 rfl) ?_
  refine ex_s (fun _ => ev_iconst dX12_read_1 ic0) ?_
  refine ex_s (fun _ => ev_put fX12_233 dX12_read_2 rfl rfl (by decide) sh115 rfl) ?_
  refine ex_s (fun _ => ev_aload_n dX12_read_5 rfl) ?_
  refine ex_s (fun _ => ev_iconst dX12_read_6 ic0) ?_
  refine ex_s (fun _ => ev_put fX12_230 dX12_read_7 rfl rfl (by decide) sh115 rfl) ?_
  refine ex_s (fun _ => ev_aload_n dX12_read_10 rfl) ?_
  refine ex_s (fun _ => ev_iconst dX12_read_11 ic0) ?_
  refine ex_s (fun _ => ev_put fX12_254 dX12_read_12 rfl rfl (by decide) sh115 rfl) ?_
  refine ex_s (fun _ => ev_aload_n dX12_read_15 rfl) ?_
  obtain ⟨y, q, e⟩ : ∃ y q, cmdAt (aN A) (aT A) 0 = (y, q) := ⟨_, _, rfl⟩
  have h0 : RD w (0, 0) 0 (w.1 124) (cs_ (cs_ (cs_ w 115 (upd (w.1 115) 14 (nI 0))) 115 (upd ((cs_ w 115 (upd (w.1 115) 14 (nI 0))).1 115) 15 (nI 0))) 115 (upd ((cs_ (cs_ w 115 (upd (w.1 115) 14 (nI 0))) 115 (upd ((cs_ w 115 (upd (w.1 115) 14 (nI 0))).1 115) 15 (nI 0))).1 115) 18 (nI 0))) := ⟨rfl, rfl, rfl, rfl, frG_cs (frG_cs (frG_cs frG_rf (by decide) _) (by decide) _) (by decide) _, fun j a b c => (show upd (upd (upd (w.1 115) 14 (nI 0)) 15 (nI 0)) 18 (nI 0) j = _ from by rw [pk_un c, pk_un b, pk_un a])⟩
  obtain ⟨_, x1, ⟨rfl, m3, f3, hR3, hy3⟩, hB1⟩ := qX12_readCommand (G := G) hi h0 (Nat.zero_le _) e (Nat.le_refl 0)
  refine ex_s (fun _ => ev_callV kX12_260 co115 hB1 dX12_read_16 rfl (by decide) (by decide) rfl) ?_
  have hexE : ∀ (k e m2 : Nat) (f2 : Nat → Int32) (x : WS), RD w (e, k) m2 f2 x → e ≤ 1 → k ≤ aN A → (e = 0 → k < aN A) → fErr (aN A) (aT A) 60 0 = some k → Ex G 10 0 mX12_read 47 [some (.ref 115), none] [] x (pMo (spRead A) w) := by
    intro k e m2 f2 x hR he hkn hlt hk
    obtain ⟨g14, g15, g18, g24, gF, gS⟩ := hR
    have e13 : x.1 115 13 = nI (aN A) := (gS 13 (by decide) (by decide) (by decide)).trans hi.1
    rcases Nat.eq_zero_or_pos e with e0 | e0
    · have hlt2 := hlt e0
      subst e0
      refine ex_s (fun _ => ev_aload_n dX12_read_47 rfl) ?_
      refine ex_s (fun _ => ev_aload_n dX12_read_48 rfl) ?_
      refine ex_s (fun _ => ev_getI fX12_230 dX12_read_49 (by decide) sh115 rfl) ?_
      refine ex_s (fun _ => ev_top (y := nI 0) g15) ?_
      refine ex_s (fun _ => ev_if_ne_f (tgt := 66) dX12_read_52 (by decide) rfl) ?_
      refine ex_s (fun _ => ev_aload_n dX12_read_55 rfl) ?_
      refine ex_s (fun _ => ev_getI fX12_233 dX12_read_56 (by decide) sh115 rfl) ?_
      refine ex_s (fun _ => ev_top (y := nI k) g14) ?_
      refine ex_s (fun _ => ev_aload_n dX12_read_59 rfl) ?_
      refine ex_s (fun _ => ev_getI fX12_135 dX12_read_60 (by decide) sh115 rfl) ?_
      refine ex_s (fun _ => ev_top e13) ?_
      refine ex_s (fun _ => ev_icmp_ge_f (tgt := 70) dX12_read_63 (by decide) (nI_ge hlt2 (by omega))) ?_
      refine ex_s (fun _ => ev_iconst dX12_read_66 ic1) ?_
      refine ex_s (fun _ => ev_goto (tgt := 71) dX12_read_67 (by decide)) ?_
      refine ex_s (fun _ => ev_put fX12_230 dX12_read_71 rfl rfl (by decide) sh115 rfl) ?_
      refine ex_s (fun _ => ev_aload_n dX12_read_74 rfl) ?_
      refine ex_s (fun _ => ev_aload_n dX12_read_75 rfl) ?_
      refine ex_s (fun _ => ev_getI fX12_230 dX12_read_76 (by decide) sh115 rfl) ?_
      refine ex_s (fun _ => ev_top (y := nI 1) rfl) ?_
      refine ex_s (fun _ => ev_if_eq_f (tgt := 89) dX12_read_79 (by decide) (by decide)) ?_
      refine ex_s (fun _ => ev_aload_n dX12_read_82 rfl) ?_
      refine ex_s (fun _ => ev_getI fX12_233 dX12_read_83 (by decide) sh115 rfl) ?_
      refine ex_s (fun _ => ev_top (y := nI k) g14) ?_
      refine ex_s (fun _ => ev_goto (tgt := 93) dX12_read_86 (by decide)) ?_
      refine ex_s (fun _ => ev_put fX12_36 dX12_read_93 rfl rfl (by decide) sh115 rfl) ?_
      refine ex_s (fun _ => ev_aload_n dX12_read_96 rfl) ?_
      refine ex_s (fun _ => ev_iconst dX12_read_97 ic0) ?_
      refine ex_s (fun _ => ev_put fX12_135 dX12_read_98 rfl rfl (by decide) sh115 rfl) ?_
      refine ex_s (fun _ => ev_aload_n dX12_read_101 rfl) ?_
      refine ex_s (fun _ => ev_getI fX12_230 dX12_read_102 (by decide) sh115 rfl) ?_
      refine ex_s (fun _ => ev_top (y := nI 1) rfl) ?_
      refine ex_s (fun _ => ev_if_eq_f (tgt := 114) dX12_read_105 (by decide) (by decide)) ?_
      refine ex_s (fun _ => ev_aload_n dX12_read_108 rfl) ?_
      refine ex_s (fun _ => ev_iconst dX12_read_109 ic1) ?_
      refine ex_s (fun _ => ev_callV kX12_82 co115 qX12_fails dX12_read_110 rfl (by decide) (by decide) rfl) ?_
      exact ⟨_, _, (by rw [sr_1 hk]; exact ⟨_, rfl, fun z => absurd (show (1 : Nat) = 0 from z) (by decide), rfl, mX_Q h (gS 3 (by decide) (by decide) (by decide)) (gS 5 (by decide) (by decide) (by decide)) (gS 11 (by decide) (by decide) (by decide)) rfl rfl (fun p hp => by cases hp; omega) (frG_tr gF (frG_cs (frG_cs (frG_cs (frG_cs frG_rf (by decide) _) (by decide) _) (by decide) _) (by decide) _)), frG_tr (frG_mo gF (by decide)) (frG_cs (frG_cs (frG_cs (frG_cs frG_rf (by decide) _) (by decide) _) (by decide) _) (by decide) _)⟩), ev_iret dX12_read_113 rfl rfl rfl rfl⟩
    · obtain rfl : e = 1 := by omega
      refine ex_s (fun _ => ev_aload_n dX12_read_47 rfl) ?_
      refine ex_s (fun _ => ev_aload_n dX12_read_48 rfl) ?_
      refine ex_s (fun _ => ev_getI fX12_230 dX12_read_49 (by decide) sh115 rfl) ?_
      refine ex_s (fun _ => ev_top (y := nI 1) g15) ?_
      refine ex_s (fun _ => ev_if_ne_t (tgt := 66) dX12_read_52 (by decide) (by decide)) ?_
      refine ex_s (fun _ => ev_iconst dX12_read_66 ic1) ?_
      refine ex_s (fun _ => ev_goto (tgt := 71) dX12_read_67 (by decide)) ?_
      refine ex_s (fun _ => ev_put fX12_230 dX12_read_71 rfl rfl (by decide) sh115 rfl) ?_
      refine ex_s (fun _ => ev_aload_n dX12_read_74 rfl) ?_
      refine ex_s (fun _ => ev_aload_n dX12_read_75 rfl) ?_
      refine ex_s (fun _ => ev_getI fX12_230 dX12_read_76 (by decide) sh115 rfl) ?_
      refine ex_s (fun _ => ev_top (y := nI 1) rfl) ?_
      refine ex_s (fun _ => ev_if_eq_f (tgt := 89) dX12_read_79 (by decide) (by decide)) ?_
      refine ex_s (fun _ => ev_aload_n dX12_read_82 rfl) ?_
      refine ex_s (fun _ => ev_getI fX12_233 dX12_read_83 (by decide) sh115 rfl) ?_
      refine ex_s (fun _ => ev_top (y := nI k) g14) ?_
      refine ex_s (fun _ => ev_goto (tgt := 93) dX12_read_86 (by decide)) ?_
      refine ex_s (fun _ => ev_put fX12_36 dX12_read_93 rfl rfl (by decide) sh115 rfl) ?_
      refine ex_s (fun _ => ev_aload_n dX12_read_96 rfl) ?_
      refine ex_s (fun _ => ev_iconst dX12_read_97 ic0) ?_
      refine ex_s (fun _ => ev_put fX12_135 dX12_read_98 rfl rfl (by decide) sh115 rfl) ?_
      refine ex_s (fun _ => ev_aload_n dX12_read_101 rfl) ?_
      refine ex_s (fun _ => ev_getI fX12_230 dX12_read_102 (by decide) sh115 rfl) ?_
      refine ex_s (fun _ => ev_top (y := nI 1) rfl) ?_
      refine ex_s (fun _ => ev_if_eq_f (tgt := 114) dX12_read_105 (by decide) (by decide)) ?_
      refine ex_s (fun _ => ev_aload_n dX12_read_108 rfl) ?_
      refine ex_s (fun _ => ev_iconst dX12_read_109 ic1) ?_
      refine ex_s (fun _ => ev_callV kX12_82 co115 qX12_fails dX12_read_110 rfl (by decide) (by decide) rfl) ?_
      exact ⟨_, _, (by rw [sr_1 hk]; exact ⟨_, rfl, fun z => absurd (show (1 : Nat) = 0 from z) (by decide), rfl, mX_Q h (gS 3 (by decide) (by decide) (by decide)) (gS 5 (by decide) (by decide) (by decide)) (gS 11 (by decide) (by decide) (by decide)) rfl rfl (fun p hp => by cases hp; omega) (frG_tr gF (frG_cs (frG_cs (frG_cs (frG_cs frG_rf (by decide) _) (by decide) _) (by decide) _) (by decide) _)), frG_tr (frG_mo gF (by decide)) (frG_cs (frG_cs (frG_cs (frG_cs frG_rf (by decide) _) (by decide) _) (by decide) _) (by decide) _)⟩), ev_iret dX12_read_113 rfl rfl rfl rfl⟩
  have hexO : ∀ (m2 : Nat) (f2 : Nat → Int32) (x : WS), RD w (0, aN A) m2 f2 x → fErr (aN A) (aT A) 60 0 = none → m2 = (cms (aN A) (aT A) 60 0).length → (∀ i c, (cms (aN A) (aT A) 60 0)[i]? = some c → hDf (aN A) (aT A) f2 i c) → Ex G 10 0 mX12_read 47 [some (.ref 115), none] [] x (pMo (spRead A) w) := by
    intro m2 f2 x hR he0 hm2 hrow
    subst hm2
    obtain ⟨g14, g15, g18, g24, gF, gS⟩ := hR
    have e13 : x.1 115 13 = nI (aN A) := (gS 13 (by decide) (by decide) (by decide)).trans hi.1
    refine ex_s (fun _ => ev_aload_n dX12_read_47 rfl) ?_
    refine ex_s (fun _ => ev_aload_n dX12_read_48 rfl) ?_
    refine ex_s (fun _ => ev_getI fX12_230 dX12_read_49 (by decide) sh115 rfl) ?_
    refine ex_s (fun _ => ev_top (y := nI 0) g15) ?_
    refine ex_s (fun _ => ev_if_ne_f (tgt := 66) dX12_read_52 (by decide) rfl) ?_
    refine ex_s (fun _ => ev_aload_n dX12_read_55 rfl) ?_
    refine ex_s (fun _ => ev_getI fX12_233 dX12_read_56 (by decide) sh115 rfl) ?_
    refine ex_s (fun _ => ev_top (y := nI (aN A)) g14) ?_
    refine ex_s (fun _ => ev_aload_n dX12_read_59 rfl) ?_
    refine ex_s (fun _ => ev_getI fX12_135 dX12_read_60 (by decide) sh115 rfl) ?_
    refine ex_s (fun _ => ev_top e13) ?_
    refine ex_s (fun _ => ev_icmp_ge_t (tgt := 70) dX12_read_63 (by decide) (Int32.le_refl _)) ?_
    refine ex_s (fun _ => ev_iconst dX12_read_70 ic0) ?_
    refine ex_s (fun _ => ev_put fX12_230 dX12_read_71 rfl rfl (by decide) sh115 rfl) ?_
    refine ex_s (fun _ => ev_aload_n dX12_read_74 rfl) ?_
    refine ex_s (fun _ => ev_aload_n dX12_read_75 rfl) ?_
    refine ex_s (fun _ => ev_getI fX12_230 dX12_read_76 (by decide) sh115 rfl) ?_
    refine ex_s (fun _ => ev_top (y := nI 0) rfl) ?_
    refine ex_s (fun _ => ev_if_eq_t (tgt := 89) dX12_read_79 (by decide) rfl) ?_
    refine ex_s (fun _ => ev_aload_n dX12_read_89 rfl) ?_
    refine ex_s (fun _ => ev_getI fX12_36 dX12_read_90 (by decide) sh115 rfl) ?_
    refine ex_s (fun _ => ev_put fX12_36 dX12_read_93 rfl rfl (by decide) sh115 rfl) ?_
    refine ex_s (fun _ => ev_aload_n dX12_read_96 rfl) ?_
    refine ex_s (fun _ => ev_iconst dX12_read_97 ic0) ?_
    refine ex_s (fun _ => ev_put fX12_135 dX12_read_98 rfl rfl (by decide) sh115 rfl) ?_
    refine ex_s (fun _ => ev_aload_n dX12_read_101 rfl) ?_
    refine ex_s (fun _ => ev_getI fX12_230 dX12_read_102 (by decide) sh115 rfl) ?_
    refine ex_s (fun _ => ev_top (y := nI 0) rfl) ?_
    refine ex_s (fun _ => ev_if_eq_t (tgt := 114) dX12_read_105 (by decide) rfl) ?_
    have hzz : ∀ p, aE A = some p → p ≤ 60 := h.2.2.2.2.2.2.2
    have fy : frG [(115, 115), (124, 124)] w (cs_ (cs_ (cs_ x 115 (upd (x.1 115) 15 (nI 0))) 115 (upd ((cs_ x 115 (upd (x.1 115) 15 (nI 0))).1 115) 16 (x.1 115 16))) 115 (upd ((cs_ (cs_ x 115 (upd (x.1 115) 15 (nI 0))) 115 (upd ((cs_ x 115 (upd (x.1 115) 15 (nI 0))).1 115) 16 (x.1 115 16))).1 115) 13 (nI 0))) := frG_tr gF (frG_cs (frG_cs (frG_cs frG_rf (by decide) _) (by decide) _) (by decide) _)
    have hyy : mX (aC A) (cs_ (cs_ (cs_ x 115 (upd (x.1 115) 15 (nI 0))) 115 (upd ((cs_ x 115 (upd (x.1 115) 15 (nI 0))).1 115) 16 (x.1 115 16))) 115 (upd ((cs_ (cs_ x 115 (upd (x.1 115) 15 (nI 0))) 115 (upd ((cs_ x 115 (upd (x.1 115) 15 (nI 0))).1 115) 16 (x.1 115 16))).1 115) 13 (nI 0))) := mX_Q h (gS 3 (by decide) (by decide) (by decide)) (gS 5 (by decide) (by decide) (by decide)) (gS 11 (by decide) (by decide) (by decide)) rfl ((gS 16 (by decide) (by decide) (by decide)).trans h.2.2.2.2.2.2.1) hzz fy
    exact ex_mo (frG_mo fy (by decide)) (gX12_orders h he0 hyy (fun i hi2 => by have q := hi.2.2 i hi2; rw [← frG_at fy (k := 123) (by decide)] at q; exact q) g24 g18 hrow)
  have lp : ∀ (f p m m2 q : Nat) (y : Option Cmd) (L0 : List Cmd) (f2 : Nat → Int32) (x : WS), aN A ≤ p + f → 0 < f → p ≤ aN A → m ≤ p → cmdAt (aN A) (aT A) p = (y, q) → fErr (aN A) (aT A) 60 0 = fErr (aN A) (aT A) f p → (fErr (aN A) (aT A) f p = none → (cms (aN A) (aT A) 60 0) = L0 ++ cms (aN A) (aT A) f p) → L0.length = m → RD w (eZ y, q) m2 f2 x → (∀ c, y = some c → m2 = m + 1 ∧ hDf (aN A) (aT A) f2 m c ∧ ∀ i d, L0[i]? = some d → hDf (aN A) (aT A) f2 i d) → Ex G 10 0 mX12_read 19 [some (.ref 115), none] [] x (pMo (spRead A) w) := by
    intro f
    induction f with
    | zero => intro p m m2 q y L0 f2 x h1 h2; exact absurd h2 (Nat.lt_irrefl 0)
    | succ f ih =>
      intro p m m2 q y L0 f2 x h1 h2 hp hm hc hfe hcm hL0 hR hy
      have hb := cmdAt_ok hc hp
      cases y with
      | none =>
        have hk : fErr (aN A) (aT A) 60 0 = some q := by rw [hfe, fErr, hc]
        have hh : hr (aN A) (aT A) 59 59 (1, q) = false := hr_1
        refine ex_s (fun _ => ev_aload_n dX12_read_19 rfl) ?_
        refine ex_s (fun _ => ev_bipush (v := nI 59) dX12_read_20 (by decide)) ?_
        refine ex_s (fun _ => ev_bipush (v := nI 59) dX12_read_22 (by decide)) ?_
        refine ex_s (fun _ => ev_callV kX12_236 co115 (qX12_isHere hi hR (Nat.le_refl 1) hb.2.1 (by decide) (by decide)) dX12_read_24 rfl (by decide) (by decide) rfl) ?_
        rw [show hr (aN A) (aT A) 59 59 (eZ none, q) = false from hh]
        refine ex_s (fun _ => ev_if_eq_t (tgt := 47) dX12_read_27 (by decide) rfl) ?_
        exact hexE q 1 _ _ x hR (Nat.le_refl 1) hb.2.1 (fun z => by cases z) hk
      | some c =>
        obtain ⟨hm2, hdc, hL⟩ := hy c rfl
        have hqp := (hb.2.2 c rfl).2
        have hLc : ∀ i d, (L0 ++ [c])[i]? = some d → hDf (aN A) (aT A) f2 i d := fun i d hd => by
          rw [List.getElem?_append] at hd
          split at hd
          · exact hL i d hd
          · rw [List.getElem?_singleton] at hd
            split at hd
            · cases hd
              rw [show i = m by omega]
              exact hdc
            · cases hd
        by_cases hqn : q = aN A
        · subst hqn
          have hk : fErr (aN A) (aT A) (f + 1) p = none := by rw [fErr, hc]; dsimp only; rw [if_pos rfl]
          have hcs : (cms (aN A) (aT A) 60 0) = L0 ++ [c] := by rw [hcm hk, cms, hc]; dsimp only; rw [if_pos rfl]
          have hh : hr (aN A) (aT A) 59 59 (0, aN A) = false := by rw [hr_0]; exact decide_eq_false (fun z => Nat.lt_irrefl _ z.1)
          refine ex_s (fun _ => ev_aload_n dX12_read_19 rfl) ?_
          refine ex_s (fun _ => ev_bipush (v := nI 59) dX12_read_20 (by decide)) ?_
          refine ex_s (fun _ => ev_bipush (v := nI 59) dX12_read_22 (by decide)) ?_
          refine ex_s (fun _ => ev_callV kX12_236 co115 (qX12_isHere hi hR (Nat.zero_le 1) (Nat.le_refl _) (by decide) (by decide)) dX12_read_24 rfl (by decide) (by decide) rfl) ?_
          rw [show hr (aN A) (aT A) 59 59 (eZ (some c), aN A) = false from hh]
          refine ex_s (fun _ => ev_if_eq_t (tgt := 47) dX12_read_27 (by decide) rfl) ?_
          exact hexO m2 f2 x hR (hfe.trans hk) (by rw [hcs, List.length_append, hm2, hL0]; rfl) (by rw [hcs]; exact hLc)
        · by_cases hs : tSg (aN A) (aT A) q 59 = true
          · have hh : hr (aN A) (aT A) 59 59 (0, q) = true := (sgn_t hs).1
            have hk : fErr (aN A) (aT A) (f + 1) p = fErr (aN A) (aT A) f (q + 1) := by rw [fErr, hc]; dsimp only; rw [if_neg hqn, if_pos hs]
            have hql : q < aN A := (of_decide_eq_true hs).1
            obtain ⟨y2, q2, e2⟩ : ∃ y2 q2, cmdAt (aN A) (aT A) (q + 1) = (y2, q2) := ⟨_, _, rfl⟩
            subst hm2
            refine ex_s (fun _ => ev_aload_n dX12_read_19 rfl) ?_
            refine ex_s (fun _ => ev_bipush (v := nI 59) dX12_read_20 (by decide)) ?_
            refine ex_s (fun _ => ev_bipush (v := nI 59) dX12_read_22 (by decide)) ?_
            refine ex_s (fun _ => ev_callV kX12_236 co115 (qX12_isHere hi hR (Nat.zero_le 1) hb.2.1 (by decide) (by decide)) dX12_read_24 rfl (by decide) (by decide) rfl) ?_
            rw [show hr (aN A) (aT A) 59 59 (eZ (some c), q) = true from hh]
            refine ex_s (fun _ => ev_if_eq_f (tgt := 47) dX12_read_27 (by decide) (by decide)) ?_
            refine ex_s (fun _ => ev_aload_n dX12_read_30 rfl) ?_
            refine ex_s (fun _ => ev_dup dX12_read_31 rfl) ?_
            refine ex_s (fun _ => ev_getI fX12_233 dX12_read_32 (by decide) sh115 rfl) ?_
            refine ex_s (fun _ => ev_top (hR.1 : _ = nI q)) ?_
            refine ex_s (fun _ => ev_iconst dX12_read_35 ic1) ?_
            refine ex_s (fun _ => ev_iadd dX12_read_36) ?_
            first | refine ex_s (fun _ => ev_top (nI_add _ _)) ?_ | skip
            refine ex_s (fun _ => ev_put fX12_233 dX12_read_37 rfl rfl (by decide) sh115 rfl) ?_
            refine ex_s (fun _ => ev_aload_n dX12_read_40 rfl) ?_
            obtain ⟨_, x2, ⟨rfl, m3, f3, hR3, hy3⟩, hB2⟩ := qX12_readCommand (G := G) hi (RD_14 hR (q + 1)) hql e2 (by omega)
            refine ex_s (fun _ => ev_callV kX12_260 co115 hB2 dX12_read_41 rfl (by decide) (by decide) rfl) ?_
            refine ex_s (fun _ => ev_goto (tgt := 19) dX12_read_44 (by decide)) ?_
            refine ih (q + 1) (m + 1) m3 q2 y2 (L0 ++ [c]) f3 x2 (by omega) (by omega) hql (by omega) e2 (hfe.trans hk) (fun z => ?_) (by rw [List.length_append, hL0]; rfl) hR3 (fun d hd => ⟨(hy3 d hd).1, (hy3 d hd).2.2, fun i d2 hd2 => hDf_lt (hy3 d hd).2.1 (by have q0 := (List.getElem?_eq_some_iff.mp hd2).1; rw [List.length_append, hL0] at q0; exact q0) (hLc i d2 hd2)⟩)
            rw [hcm (hk.trans z), cms, hc]
            dsimp only
            rw [if_neg hqn, List.append_assoc]
            rfl
          · have hh : hr (aN A) (aT A) 59 59 (0, q) = false := (sgn_f hs).1
            have hk : fErr (aN A) (aT A) 60 0 = some q := by rw [hfe, fErr, hc]; dsimp only; rw [if_neg hqn, if_neg hs]
            refine ex_s (fun _ => ev_aload_n dX12_read_19 rfl) ?_
            refine ex_s (fun _ => ev_bipush (v := nI 59) dX12_read_20 (by decide)) ?_
            refine ex_s (fun _ => ev_bipush (v := nI 59) dX12_read_22 (by decide)) ?_
            refine ex_s (fun _ => ev_callV kX12_236 co115 (qX12_isHere hi hR (Nat.zero_le 1) hb.2.1 (by decide) (by decide)) dX12_read_24 rfl (by decide) (by decide) rfl) ?_
            rw [show hr (aN A) (aT A) 59 59 (eZ (some c), q) = false from hh]
            refine ex_s (fun _ => ev_if_eq_t (tgt := 47) dX12_read_27 (by decide) rfl) ?_
            exact hexE q 0 _ _ x hR (Nat.zero_le 1) hb.2.1 (fun _ => by have := hb.2.1; omega) hk
  refine lp 60 0 0 m3 q y [] f3 x1 (by have := hi.2.1; omega) (by decide) (Nat.zero_le _) (Nat.le_refl 0) e rfl (fun _ => rfl) rfl hR3 (fun c hc => ⟨(hy3 c hc).1, (hy3 c hc).2.2, fun i d hd => by simp at hd⟩)
