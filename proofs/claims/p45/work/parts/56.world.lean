/-! the law's start: what is held, the world laid -/
def S0 : ST := (fun _ => -1, fun _ => nI 100, fun _ => 0, fun _ => 0, fun k => if k = 0 then nI 1 else 0, (0, fun _ _ => 0, fun _ => 0, fun _ => 0), (0, fun _ => 0, fun _ => 0, fun _ => 0))
def A0 : AS := mkA S0 none [] 0 (fun _ => 0) [] [] none
def w0f (k : Nat) : Nat → Int32 :=
  if k = 0 then (fun j => if j = 11 then -1 else 0)
  else if k < 100 then (if (k - 1) % 11 = 0 then (fun j => if j = 12 then nI 1 else 0) else if (k - 1) % 11 = 1 then (fun j => if j < 64 then -1 else 0) else if (k - 1) % 11 = 2 then (fun j => if j < 4 then nI 100 else 0) else (fun _ => 0))
  else (fun _ => 0)
def w00 : WS := (w0f, [])
theorem S0_ok : okS S0 := ⟨fun c _ => Or.inl rfl, ⟨Nat.zero_le _, fun i hi => absurd hi (Nat.not_lt_zero i)⟩, ⟨Nat.zero_le _, fun i hi => absurd hi (Nat.not_lt_zero i), fun i j hi => absurd hi (Nat.not_lt_zero i)⟩, ⟨1, by decide, by decide, rfl⟩⟩
theorem S0_cn : cnS S0 := ⟨fun _ => 100, fun _ => 0, fun _ => 0, 0, fun k _ => ⟨rfl, rfl, rfl⟩, rfl, by decide, by decide⟩
theorem S0_ch : chA S0 w00 1 := ⟨fun c hc => (show (if c < 64 then (-1 : Int32) else 0) = -1 from if_pos hc), fun k hk => ⟨(show (if k < 4 then nI 100 else 0) = nI 100 from if_pos hk), rfl, rfl⟩, rfl, fun i hi => absurd hi (Nat.not_lt_zero i), rfl, fun i hi => absurd hi (Nat.not_lt_zero i), ⟨rfl, rfl, rfl, rfl, rfl⟩⟩
theorem a0_aX : aX A0 w00 := ⟨⟨S0_ch, S0_ok⟩, ⟨fun _ => rfl, fun T hT => by cases hT⟩, ⟨0, by decide, rfl, rfl, Nat.zero_le _, fun i T hT => (by have hT : ([] : List ST)[i]? = some T := hT; rw [List.getElem?_nil] at hT; cases hT)⟩, ⟨rfl, Nat.zero_le _, fun i hi => absurd hi (Nat.not_lt_zero i)⟩, ⟨rfl, Nat.zero_le _, fun i v hv => (by have hv : ([] : List Nat)[i]? = some v := hv; rw [List.getElem?_nil] at hv; cases hv)⟩, ⟨rfl, Nat.zero_le _, fun i v hv => (by have hv : ([] : List (Int32 × Int32))[i]? = some v := hv; rw [List.getElem?_nil] at hv; cases hv)⟩, rfl, fun p hp => by cases hp⟩
def adL (q : Nat) (c1 c2 c3 : Nat → Nat) (hc : Nat → Nat → Nat) (b4 ha b5 cm b6 sp b7 b8 ln b9 r0 r1 b10 p0 p1 : Nat) (k : Nat) : Nat :=
  if k = 0 then q else if k < 12 then c1 (k - 1) else if k < 23 then c2 (k - 12) else if k < 34 then c3 (k - 23) else if k < 100 then hc ((k - 34) / 11) ((k - 34) % 11) else match k with
  | 100 => b4
  | 101 => ha
  | 102 => b5
  | 103 => cm
  | 104 => b6
  | 105 => sp
  | 106 => b7
  | 107 => b8
  | 108 => ln
  | 109 => b9
  | 110 => r0
  | 111 => r1
  | 112 => b10
  | 113 => p0
  | 114 => p1
  | _ => 0
def w3 (G : GX) (q : Nat) (c1 c2 c3 : Nat → Nat) (hf : Nat → Option Nat) (hc : Nat → Nat → Nat) (b4 ha b5 cm b6 sp b7 b8 ln b9 r0 r1 b10 p0 p1 : Nat) : va_W := clL G q c1 c2 c3 hf hc b4 ha b5 cm b6 sp b7 b8 ln b9 r0 r1 b10 p0 p1
def GW (G : GX) (q : Nat) (c1 c2 c3 : Nat → Nat) (hf : Nat → Option Nat) (hc : Nat → Nat → Nat) (b4 ha b5 cm b6 sp b7 b8 ln b9 r0 r1 b10 p0 p1 : Nat) : GX := (gL G, gD G, fun k => if k < 115 then adL q c1 c2 c3 hc b4 ha b5 cm b6 sp b7 b8 ln b9 r0 r1 b10 p0 p1 k else if 10000 ≤ k then k - 10000 else gA G k, gC G, gZ G, gN G, gX G)
def pi_ (k : Nat) : Nat := if k < 34 then k else if k < 100 then k + 2 else if k = 100 then 34 else if k = 101 then 35 else if k = 104 then 105 else if k = 105 then 106 else if k = 106 then 104 else k
theorem pi_inj : ∀ i j : Fin 115, pi_ i.val = pi_ j.val → i = j := by decide +kernel
def at3 (G : GX) (q : Nat) (c1 c2 c3 : Nat → Nat) (hf : Nat → Option Nat) (hc : Nat → Nat → Nat) (b4 ha b5 cm b6 sp b7 b8 ln b9 r0 r1 b10 p0 p1 : Nat) (k : Nat) : Prop := ∃ e, (w3 G q c1 c2 c3 hf hc b4 ha b5 cm b6 sp b7 b8 ln b9 r0 r1 b10 p0 p1)[pi_ k]? = some (gA (GW G q c1 c2 c3 hf hc b4 ha b5 cm b6 sp b7 b8 ln b9 r0 r1 b10 p0 p1) k, e) ∧ ∀ H, va_at (gD G) vwCl (gA (GW G q c1 c2 c3 hf hc b4 ha b5 cm b6 sp b7 b8 ln b9 r0 r1 b10 p0 p1) k, e) H → va_at (gD G) vwCl (gA (GW G q c1 c2 c3 hf hc b4 ha b5 cm b6 sp b7 b8 ln b9 r0 r1 b10 p0 p1) k, ce_ (GW G q c1 c2 c3 hf hc b4 ha b5 cm b6 sp b7 b8 ln b9 r0 r1 b10 p0 p1) w00 k) H
theorem arrV_cg {c : ClassId} {n : Nat} {f g : Nat → Value} (h : ∀ j, j < n → f j = g j) : arrV c n f = arrV c n g := by
  unfold arrV
  congr 2
  funext j
  exact h j.val j.isLt
theorem sh34 : shp 34 = .inl (3, [some 35, some 36, some 37, some 38, some 39, some 40, some 41, some 42, some 43, some 44, none, none, none, none, none, none, none]) := by decide +kernel
theorem sh35 : shp 35 = .inr (0, 64) := by decide +kernel
theorem sh36 : shp 36 = .inr (0, 4) := by decide +kernel
theorem sh37 : shp 37 = .inr (0, 4) := by decide +kernel
theorem sh38 : shp 38 = .inr (0, 4) := by decide +kernel
theorem sh39 : shp 39 = .inr (0, 52) := by decide +kernel
theorem sh40 : shp 40 = .inr (0, 4) := by decide +kernel
theorem sh41 : shp 41 = .inr (0, 4) := by decide +kernel
theorem sh42 : shp 42 = .inr (0, 5) := by decide +kernel
theorem sh43 : shp 43 = .inr (0, 5) := by decide +kernel
theorem sh44 : shp 44 = .inr (0, 5) := by decide +kernel
theorem sh45 : shp 45 = .inl (3, [some 46, some 47, some 48, some 49, some 50, some 51, some 52, some 53, some 54, some 55, none, none, none, none, none, none, none]) := by decide +kernel
theorem sh46 : shp 46 = .inr (0, 64) := by decide +kernel
theorem sh47 : shp 47 = .inr (0, 4) := by decide +kernel
theorem sh48 : shp 48 = .inr (0, 4) := by decide +kernel
theorem sh49 : shp 49 = .inr (0, 4) := by decide +kernel
theorem sh50 : shp 50 = .inr (0, 52) := by decide +kernel
theorem sh51 : shp 51 = .inr (0, 4) := by decide +kernel
theorem sh52 : shp 52 = .inr (0, 4) := by decide +kernel
theorem sh53 : shp 53 = .inr (0, 5) := by decide +kernel
theorem sh54 : shp 54 = .inr (0, 5) := by decide +kernel
theorem sh55 : shp 55 = .inr (0, 5) := by decide +kernel
theorem sh56 : shp 56 = .inl (3, [some 57, some 58, some 59, some 60, some 61, some 62, some 63, some 64, some 65, some 66, none, none, none, none, none, none, none]) := by decide +kernel
theorem sh57 : shp 57 = .inr (0, 64) := by decide +kernel
theorem sh58 : shp 58 = .inr (0, 4) := by decide +kernel
theorem sh59 : shp 59 = .inr (0, 4) := by decide +kernel
theorem sh60 : shp 60 = .inr (0, 4) := by decide +kernel
theorem sh61 : shp 61 = .inr (0, 52) := by decide +kernel
theorem sh62 : shp 62 = .inr (0, 4) := by decide +kernel
theorem sh63 : shp 63 = .inr (0, 4) := by decide +kernel
theorem sh64 : shp 64 = .inr (0, 5) := by decide +kernel
theorem sh65 : shp 65 = .inr (0, 5) := by decide +kernel
theorem sh66 : shp 66 = .inr (0, 5) := by decide +kernel
theorem sh67 : shp 67 = .inl (3, [some 68, some 69, some 70, some 71, some 72, some 73, some 74, some 75, some 76, some 77, none, none, none, none, none, none, none]) := by decide +kernel
theorem sh68 : shp 68 = .inr (0, 64) := by decide +kernel
theorem sh69 : shp 69 = .inr (0, 4) := by decide +kernel
theorem sh70 : shp 70 = .inr (0, 4) := by decide +kernel
theorem sh71 : shp 71 = .inr (0, 4) := by decide +kernel
theorem sh72 : shp 72 = .inr (0, 52) := by decide +kernel
theorem sh73 : shp 73 = .inr (0, 4) := by decide +kernel
theorem sh74 : shp 74 = .inr (0, 4) := by decide +kernel
theorem sh75 : shp 75 = .inr (0, 5) := by decide +kernel
theorem sh76 : shp 76 = .inr (0, 5) := by decide +kernel
theorem sh77 : shp 77 = .inr (0, 5) := by decide +kernel
theorem sh78 : shp 78 = .inl (3, [some 79, some 80, some 81, some 82, some 83, some 84, some 85, some 86, some 87, some 88, none, none, none, none, none, none, none]) := by decide +kernel
theorem sh79 : shp 79 = .inr (0, 64) := by decide +kernel
theorem sh80 : shp 80 = .inr (0, 4) := by decide +kernel
theorem sh81 : shp 81 = .inr (0, 4) := by decide +kernel
theorem sh82 : shp 82 = .inr (0, 4) := by decide +kernel
theorem sh83 : shp 83 = .inr (0, 52) := by decide +kernel
theorem sh84 : shp 84 = .inr (0, 4) := by decide +kernel
theorem sh85 : shp 85 = .inr (0, 4) := by decide +kernel
theorem sh86 : shp 86 = .inr (0, 5) := by decide +kernel
theorem sh87 : shp 87 = .inr (0, 5) := by decide +kernel
theorem sh88 : shp 88 = .inr (0, 5) := by decide +kernel
theorem sh89 : shp 89 = .inl (3, [some 90, some 91, some 92, some 93, some 94, some 95, some 96, some 97, some 98, some 99, none, none, none, none, none, none, none]) := by decide +kernel
theorem sh90 : shp 90 = .inr (0, 64) := by decide +kernel
theorem sh91 : shp 91 = .inr (0, 4) := by decide +kernel
theorem sh92 : shp 92 = .inr (0, 4) := by decide +kernel
theorem sh93 : shp 93 = .inr (0, 4) := by decide +kernel
theorem sh94 : shp 94 = .inr (0, 52) := by decide +kernel
theorem sh95 : shp 95 = .inr (0, 4) := by decide +kernel
theorem sh96 : shp 96 = .inr (0, 4) := by decide +kernel
theorem sh97 : shp 97 = .inr (0, 5) := by decide +kernel
theorem sh98 : shp 98 = .inr (0, 5) := by decide +kernel
theorem sh99 : shp 99 = .inr (0, 5) := by decide +kernel
set_option maxRecDepth 20000 in
theorem at3_0 {G : GX} (q : Nat) (c1 c2 c3 : Nat → Nat) (hf : Nat → Option Nat) (hc : Nat → Nat → Nat) (b4 ha b5 cm b6 sp b7 b8 ln b9 r0 r1 b10 p0 p1 : Nat) : at3 G q c1 c2 c3 hf hc b4 ha b5 cm b6 sp b7 b8 ln b9 r0 r1 b10 p0 p1 0 ∧ at3 G q c1 c2 c3 hf hc b4 ha b5 cm b6 sp b7 b8 ln b9 r0 r1 b10 p0 p1 1 ∧ at3 G q c1 c2 c3 hf hc b4 ha b5 cm b6 sp b7 b8 ln b9 r0 r1 b10 p0 p1 2 ∧ at3 G q c1 c2 c3 hf hc b4 ha b5 cm b6 sp b7 b8 ln b9 r0 r1 b10 p0 p1 3 ∧ at3 G q c1 c2 c3 hf hc b4 ha b5 cm b6 sp b7 b8 ln b9 r0 r1 b10 p0 p1 4 ∧ at3 G q c1 c2 c3 hf hc b4 ha b5 cm b6 sp b7 b8 ln b9 r0 r1 b10 p0 p1 5 ∧ at3 G q c1 c2 c3 hf hc b4 ha b5 cm b6 sp b7 b8 ln b9 r0 r1 b10 p0 p1 6 ∧ at3 G q c1 c2 c3 hf hc b4 ha b5 cm b6 sp b7 b8 ln b9 r0 r1 b10 p0 p1 7 ∧ at3 G q c1 c2 c3 hf hc b4 ha b5 cm b6 sp b7 b8 ln b9 r0 r1 b10 p0 p1 8 ∧ at3 G q c1 c2 c3 hf hc b4 ha b5 cm b6 sp b7 b8 ln b9 r0 r1 b10 p0 p1 9 ∧ at3 G q c1 c2 c3 hf hc b4 ha b5 cm b6 sp b7 b8 ln b9 r0 r1 b10 p0 p1 10 ∧ at3 G q c1 c2 c3 hf hc b4 ha b5 cm b6 sp b7 b8 ln b9 r0 r1 b10 p0 p1 11 := ⟨⟨_, rfl, fun H h => by rw [ce_obj sh0]; simp only [List.mapIdx_cons, List.mapIdx_nil, fv_]; exact h⟩, ⟨_, rfl, fun H h => by rw [ce_obj sh1]; simp only [List.mapIdx_cons, List.mapIdx_nil, fv_]; exact h⟩, ⟨_, rfl, fun H h => by rw [ce_arr sh2]; exact h⟩, ⟨_, rfl, fun H h => by rw [ce_arr sh3]; exact h⟩, ⟨_, rfl, fun H h => by rw [ce_arr sh4]; exact h⟩, ⟨_, rfl, fun H h => by rw [ce_arr sh5]; exact h⟩, ⟨_, rfl, fun H h => by rw [ce_arr sh6]; exact h⟩, ⟨_, rfl, fun H h => by rw [ce_arr sh7]; exact h⟩, ⟨_, rfl, fun H h => by rw [ce_arr sh8]; exact h⟩, ⟨_, rfl, fun H h => by rw [ce_arr sh9]; exact h⟩, ⟨_, rfl, fun H h => by rw [ce_arr sh10]; exact h⟩, ⟨_, rfl, fun H h => by rw [ce_arr sh11]; exact h⟩⟩
set_option maxRecDepth 20000 in
theorem at3_1 {G : GX} (q : Nat) (c1 c2 c3 : Nat → Nat) (hf : Nat → Option Nat) (hc : Nat → Nat → Nat) (b4 ha b5 cm b6 sp b7 b8 ln b9 r0 r1 b10 p0 p1 : Nat) : at3 G q c1 c2 c3 hf hc b4 ha b5 cm b6 sp b7 b8 ln b9 r0 r1 b10 p0 p1 12 ∧ at3 G q c1 c2 c3 hf hc b4 ha b5 cm b6 sp b7 b8 ln b9 r0 r1 b10 p0 p1 13 ∧ at3 G q c1 c2 c3 hf hc b4 ha b5 cm b6 sp b7 b8 ln b9 r0 r1 b10 p0 p1 14 ∧ at3 G q c1 c2 c3 hf hc b4 ha b5 cm b6 sp b7 b8 ln b9 r0 r1 b10 p0 p1 15 ∧ at3 G q c1 c2 c3 hf hc b4 ha b5 cm b6 sp b7 b8 ln b9 r0 r1 b10 p0 p1 16 ∧ at3 G q c1 c2 c3 hf hc b4 ha b5 cm b6 sp b7 b8 ln b9 r0 r1 b10 p0 p1 17 ∧ at3 G q c1 c2 c3 hf hc b4 ha b5 cm b6 sp b7 b8 ln b9 r0 r1 b10 p0 p1 18 ∧ at3 G q c1 c2 c3 hf hc b4 ha b5 cm b6 sp b7 b8 ln b9 r0 r1 b10 p0 p1 19 ∧ at3 G q c1 c2 c3 hf hc b4 ha b5 cm b6 sp b7 b8 ln b9 r0 r1 b10 p0 p1 20 ∧ at3 G q c1 c2 c3 hf hc b4 ha b5 cm b6 sp b7 b8 ln b9 r0 r1 b10 p0 p1 21 ∧ at3 G q c1 c2 c3 hf hc b4 ha b5 cm b6 sp b7 b8 ln b9 r0 r1 b10 p0 p1 22 := ⟨⟨_, rfl, fun H h => by rw [ce_obj sh12]; simp only [List.mapIdx_cons, List.mapIdx_nil, fv_]; exact h⟩, ⟨_, rfl, fun H h => by rw [ce_arr sh13]; exact h⟩, ⟨_, rfl, fun H h => by rw [ce_arr sh14]; exact h⟩, ⟨_, rfl, fun H h => by rw [ce_arr sh15]; exact h⟩, ⟨_, rfl, fun H h => by rw [ce_arr sh16]; exact h⟩, ⟨_, rfl, fun H h => by rw [ce_arr sh17]; exact h⟩, ⟨_, rfl, fun H h => by rw [ce_arr sh18]; exact h⟩, ⟨_, rfl, fun H h => by rw [ce_arr sh19]; exact h⟩, ⟨_, rfl, fun H h => by rw [ce_arr sh20]; exact h⟩, ⟨_, rfl, fun H h => by rw [ce_arr sh21]; exact h⟩, ⟨_, rfl, fun H h => by rw [ce_arr sh22]; exact h⟩⟩
set_option maxRecDepth 20000 in
theorem at3_2 {G : GX} (q : Nat) (c1 c2 c3 : Nat → Nat) (hf : Nat → Option Nat) (hc : Nat → Nat → Nat) (b4 ha b5 cm b6 sp b7 b8 ln b9 r0 r1 b10 p0 p1 : Nat) : at3 G q c1 c2 c3 hf hc b4 ha b5 cm b6 sp b7 b8 ln b9 r0 r1 b10 p0 p1 23 ∧ at3 G q c1 c2 c3 hf hc b4 ha b5 cm b6 sp b7 b8 ln b9 r0 r1 b10 p0 p1 24 ∧ at3 G q c1 c2 c3 hf hc b4 ha b5 cm b6 sp b7 b8 ln b9 r0 r1 b10 p0 p1 25 ∧ at3 G q c1 c2 c3 hf hc b4 ha b5 cm b6 sp b7 b8 ln b9 r0 r1 b10 p0 p1 26 ∧ at3 G q c1 c2 c3 hf hc b4 ha b5 cm b6 sp b7 b8 ln b9 r0 r1 b10 p0 p1 27 ∧ at3 G q c1 c2 c3 hf hc b4 ha b5 cm b6 sp b7 b8 ln b9 r0 r1 b10 p0 p1 28 ∧ at3 G q c1 c2 c3 hf hc b4 ha b5 cm b6 sp b7 b8 ln b9 r0 r1 b10 p0 p1 29 ∧ at3 G q c1 c2 c3 hf hc b4 ha b5 cm b6 sp b7 b8 ln b9 r0 r1 b10 p0 p1 30 ∧ at3 G q c1 c2 c3 hf hc b4 ha b5 cm b6 sp b7 b8 ln b9 r0 r1 b10 p0 p1 31 ∧ at3 G q c1 c2 c3 hf hc b4 ha b5 cm b6 sp b7 b8 ln b9 r0 r1 b10 p0 p1 32 ∧ at3 G q c1 c2 c3 hf hc b4 ha b5 cm b6 sp b7 b8 ln b9 r0 r1 b10 p0 p1 33 := ⟨⟨_, rfl, fun H h => by rw [ce_obj sh23]; simp only [List.mapIdx_cons, List.mapIdx_nil, fv_]; exact h⟩, ⟨_, rfl, fun H h => by rw [ce_arr sh24]; exact h⟩, ⟨_, rfl, fun H h => by rw [ce_arr sh25]; exact h⟩, ⟨_, rfl, fun H h => by rw [ce_arr sh26]; exact h⟩, ⟨_, rfl, fun H h => by rw [ce_arr sh27]; exact h⟩, ⟨_, rfl, fun H h => by rw [ce_arr sh28]; exact h⟩, ⟨_, rfl, fun H h => by rw [ce_arr sh29]; exact h⟩, ⟨_, rfl, fun H h => by rw [ce_arr sh30]; exact h⟩, ⟨_, rfl, fun H h => by rw [ce_arr sh31]; exact h⟩, ⟨_, rfl, fun H h => by rw [ce_arr sh32]; exact h⟩, ⟨_, rfl, fun H h => by rw [ce_arr sh33]; exact h⟩⟩
set_option maxRecDepth 20000 in
theorem at3_3 {G : GX} (q : Nat) (c1 c2 c3 : Nat → Nat) (hf : Nat → Option Nat) (hc : Nat → Nat → Nat) (b4 ha b5 cm b6 sp b7 b8 ln b9 r0 r1 b10 p0 p1 : Nat) : at3 G q c1 c2 c3 hf hc b4 ha b5 cm b6 sp b7 b8 ln b9 r0 r1 b10 p0 p1 34 ∧ at3 G q c1 c2 c3 hf hc b4 ha b5 cm b6 sp b7 b8 ln b9 r0 r1 b10 p0 p1 35 ∧ at3 G q c1 c2 c3 hf hc b4 ha b5 cm b6 sp b7 b8 ln b9 r0 r1 b10 p0 p1 36 ∧ at3 G q c1 c2 c3 hf hc b4 ha b5 cm b6 sp b7 b8 ln b9 r0 r1 b10 p0 p1 37 ∧ at3 G q c1 c2 c3 hf hc b4 ha b5 cm b6 sp b7 b8 ln b9 r0 r1 b10 p0 p1 38 ∧ at3 G q c1 c2 c3 hf hc b4 ha b5 cm b6 sp b7 b8 ln b9 r0 r1 b10 p0 p1 39 ∧ at3 G q c1 c2 c3 hf hc b4 ha b5 cm b6 sp b7 b8 ln b9 r0 r1 b10 p0 p1 40 ∧ at3 G q c1 c2 c3 hf hc b4 ha b5 cm b6 sp b7 b8 ln b9 r0 r1 b10 p0 p1 41 ∧ at3 G q c1 c2 c3 hf hc b4 ha b5 cm b6 sp b7 b8 ln b9 r0 r1 b10 p0 p1 42 ∧ at3 G q c1 c2 c3 hf hc b4 ha b5 cm b6 sp b7 b8 ln b9 r0 r1 b10 p0 p1 43 ∧ at3 G q c1 c2 c3 hf hc b4 ha b5 cm b6 sp b7 b8 ln b9 r0 r1 b10 p0 p1 44 := ⟨⟨_, rfl, fun H h => by rw [ce_obj sh34]; simp only [List.mapIdx_cons, List.mapIdx_nil, fv_]; exact h⟩, ⟨_, rfl, fun H h => by rw [ce_arr sh35]; exact h⟩, ⟨_, rfl, fun H h => by rw [ce_arr sh36]; exact h⟩, ⟨_, rfl, fun H h => by rw [ce_arr sh37]; exact h⟩, ⟨_, rfl, fun H h => by rw [ce_arr sh38]; exact h⟩, ⟨_, rfl, fun H h => by rw [ce_arr sh39]; exact h⟩, ⟨_, rfl, fun H h => by rw [ce_arr sh40]; exact h⟩, ⟨_, rfl, fun H h => by rw [ce_arr sh41]; exact h⟩, ⟨_, rfl, fun H h => by rw [ce_arr sh42]; exact h⟩, ⟨_, rfl, fun H h => by rw [ce_arr sh43]; exact h⟩, ⟨_, rfl, fun H h => by rw [ce_arr sh44]; exact h⟩⟩
set_option maxRecDepth 20000 in
theorem at3_4 {G : GX} (q : Nat) (c1 c2 c3 : Nat → Nat) (hf : Nat → Option Nat) (hc : Nat → Nat → Nat) (b4 ha b5 cm b6 sp b7 b8 ln b9 r0 r1 b10 p0 p1 : Nat) : at3 G q c1 c2 c3 hf hc b4 ha b5 cm b6 sp b7 b8 ln b9 r0 r1 b10 p0 p1 45 ∧ at3 G q c1 c2 c3 hf hc b4 ha b5 cm b6 sp b7 b8 ln b9 r0 r1 b10 p0 p1 46 ∧ at3 G q c1 c2 c3 hf hc b4 ha b5 cm b6 sp b7 b8 ln b9 r0 r1 b10 p0 p1 47 ∧ at3 G q c1 c2 c3 hf hc b4 ha b5 cm b6 sp b7 b8 ln b9 r0 r1 b10 p0 p1 48 ∧ at3 G q c1 c2 c3 hf hc b4 ha b5 cm b6 sp b7 b8 ln b9 r0 r1 b10 p0 p1 49 ∧ at3 G q c1 c2 c3 hf hc b4 ha b5 cm b6 sp b7 b8 ln b9 r0 r1 b10 p0 p1 50 ∧ at3 G q c1 c2 c3 hf hc b4 ha b5 cm b6 sp b7 b8 ln b9 r0 r1 b10 p0 p1 51 ∧ at3 G q c1 c2 c3 hf hc b4 ha b5 cm b6 sp b7 b8 ln b9 r0 r1 b10 p0 p1 52 ∧ at3 G q c1 c2 c3 hf hc b4 ha b5 cm b6 sp b7 b8 ln b9 r0 r1 b10 p0 p1 53 ∧ at3 G q c1 c2 c3 hf hc b4 ha b5 cm b6 sp b7 b8 ln b9 r0 r1 b10 p0 p1 54 ∧ at3 G q c1 c2 c3 hf hc b4 ha b5 cm b6 sp b7 b8 ln b9 r0 r1 b10 p0 p1 55 := ⟨⟨_, rfl, fun H h => by rw [ce_obj sh45]; simp only [List.mapIdx_cons, List.mapIdx_nil, fv_]; exact h⟩, ⟨_, rfl, fun H h => by rw [ce_arr sh46]; exact h⟩, ⟨_, rfl, fun H h => by rw [ce_arr sh47]; exact h⟩, ⟨_, rfl, fun H h => by rw [ce_arr sh48]; exact h⟩, ⟨_, rfl, fun H h => by rw [ce_arr sh49]; exact h⟩, ⟨_, rfl, fun H h => by rw [ce_arr sh50]; exact h⟩, ⟨_, rfl, fun H h => by rw [ce_arr sh51]; exact h⟩, ⟨_, rfl, fun H h => by rw [ce_arr sh52]; exact h⟩, ⟨_, rfl, fun H h => by rw [ce_arr sh53]; exact h⟩, ⟨_, rfl, fun H h => by rw [ce_arr sh54]; exact h⟩, ⟨_, rfl, fun H h => by rw [ce_arr sh55]; exact h⟩⟩
set_option maxRecDepth 20000 in
theorem at3_5 {G : GX} (q : Nat) (c1 c2 c3 : Nat → Nat) (hf : Nat → Option Nat) (hc : Nat → Nat → Nat) (b4 ha b5 cm b6 sp b7 b8 ln b9 r0 r1 b10 p0 p1 : Nat) : at3 G q c1 c2 c3 hf hc b4 ha b5 cm b6 sp b7 b8 ln b9 r0 r1 b10 p0 p1 56 ∧ at3 G q c1 c2 c3 hf hc b4 ha b5 cm b6 sp b7 b8 ln b9 r0 r1 b10 p0 p1 57 ∧ at3 G q c1 c2 c3 hf hc b4 ha b5 cm b6 sp b7 b8 ln b9 r0 r1 b10 p0 p1 58 ∧ at3 G q c1 c2 c3 hf hc b4 ha b5 cm b6 sp b7 b8 ln b9 r0 r1 b10 p0 p1 59 ∧ at3 G q c1 c2 c3 hf hc b4 ha b5 cm b6 sp b7 b8 ln b9 r0 r1 b10 p0 p1 60 ∧ at3 G q c1 c2 c3 hf hc b4 ha b5 cm b6 sp b7 b8 ln b9 r0 r1 b10 p0 p1 61 ∧ at3 G q c1 c2 c3 hf hc b4 ha b5 cm b6 sp b7 b8 ln b9 r0 r1 b10 p0 p1 62 ∧ at3 G q c1 c2 c3 hf hc b4 ha b5 cm b6 sp b7 b8 ln b9 r0 r1 b10 p0 p1 63 ∧ at3 G q c1 c2 c3 hf hc b4 ha b5 cm b6 sp b7 b8 ln b9 r0 r1 b10 p0 p1 64 ∧ at3 G q c1 c2 c3 hf hc b4 ha b5 cm b6 sp b7 b8 ln b9 r0 r1 b10 p0 p1 65 ∧ at3 G q c1 c2 c3 hf hc b4 ha b5 cm b6 sp b7 b8 ln b9 r0 r1 b10 p0 p1 66 := ⟨⟨_, rfl, fun H h => by rw [ce_obj sh56]; simp only [List.mapIdx_cons, List.mapIdx_nil, fv_]; exact h⟩, ⟨_, rfl, fun H h => by rw [ce_arr sh57]; exact h⟩, ⟨_, rfl, fun H h => by rw [ce_arr sh58]; exact h⟩, ⟨_, rfl, fun H h => by rw [ce_arr sh59]; exact h⟩, ⟨_, rfl, fun H h => by rw [ce_arr sh60]; exact h⟩, ⟨_, rfl, fun H h => by rw [ce_arr sh61]; exact h⟩, ⟨_, rfl, fun H h => by rw [ce_arr sh62]; exact h⟩, ⟨_, rfl, fun H h => by rw [ce_arr sh63]; exact h⟩, ⟨_, rfl, fun H h => by rw [ce_arr sh64]; exact h⟩, ⟨_, rfl, fun H h => by rw [ce_arr sh65]; exact h⟩, ⟨_, rfl, fun H h => by rw [ce_arr sh66]; exact h⟩⟩
set_option maxRecDepth 20000 in
theorem at3_6 {G : GX} (q : Nat) (c1 c2 c3 : Nat → Nat) (hf : Nat → Option Nat) (hc : Nat → Nat → Nat) (b4 ha b5 cm b6 sp b7 b8 ln b9 r0 r1 b10 p0 p1 : Nat) : at3 G q c1 c2 c3 hf hc b4 ha b5 cm b6 sp b7 b8 ln b9 r0 r1 b10 p0 p1 67 ∧ at3 G q c1 c2 c3 hf hc b4 ha b5 cm b6 sp b7 b8 ln b9 r0 r1 b10 p0 p1 68 ∧ at3 G q c1 c2 c3 hf hc b4 ha b5 cm b6 sp b7 b8 ln b9 r0 r1 b10 p0 p1 69 ∧ at3 G q c1 c2 c3 hf hc b4 ha b5 cm b6 sp b7 b8 ln b9 r0 r1 b10 p0 p1 70 ∧ at3 G q c1 c2 c3 hf hc b4 ha b5 cm b6 sp b7 b8 ln b9 r0 r1 b10 p0 p1 71 ∧ at3 G q c1 c2 c3 hf hc b4 ha b5 cm b6 sp b7 b8 ln b9 r0 r1 b10 p0 p1 72 ∧ at3 G q c1 c2 c3 hf hc b4 ha b5 cm b6 sp b7 b8 ln b9 r0 r1 b10 p0 p1 73 ∧ at3 G q c1 c2 c3 hf hc b4 ha b5 cm b6 sp b7 b8 ln b9 r0 r1 b10 p0 p1 74 ∧ at3 G q c1 c2 c3 hf hc b4 ha b5 cm b6 sp b7 b8 ln b9 r0 r1 b10 p0 p1 75 ∧ at3 G q c1 c2 c3 hf hc b4 ha b5 cm b6 sp b7 b8 ln b9 r0 r1 b10 p0 p1 76 ∧ at3 G q c1 c2 c3 hf hc b4 ha b5 cm b6 sp b7 b8 ln b9 r0 r1 b10 p0 p1 77 := ⟨⟨_, rfl, fun H h => by rw [ce_obj sh67]; simp only [List.mapIdx_cons, List.mapIdx_nil, fv_]; exact h⟩, ⟨_, rfl, fun H h => by rw [ce_arr sh68]; exact h⟩, ⟨_, rfl, fun H h => by rw [ce_arr sh69]; exact h⟩, ⟨_, rfl, fun H h => by rw [ce_arr sh70]; exact h⟩, ⟨_, rfl, fun H h => by rw [ce_arr sh71]; exact h⟩, ⟨_, rfl, fun H h => by rw [ce_arr sh72]; exact h⟩, ⟨_, rfl, fun H h => by rw [ce_arr sh73]; exact h⟩, ⟨_, rfl, fun H h => by rw [ce_arr sh74]; exact h⟩, ⟨_, rfl, fun H h => by rw [ce_arr sh75]; exact h⟩, ⟨_, rfl, fun H h => by rw [ce_arr sh76]; exact h⟩, ⟨_, rfl, fun H h => by rw [ce_arr sh77]; exact h⟩⟩
set_option maxRecDepth 20000 in
theorem at3_7 {G : GX} (q : Nat) (c1 c2 c3 : Nat → Nat) (hf : Nat → Option Nat) (hc : Nat → Nat → Nat) (b4 ha b5 cm b6 sp b7 b8 ln b9 r0 r1 b10 p0 p1 : Nat) : at3 G q c1 c2 c3 hf hc b4 ha b5 cm b6 sp b7 b8 ln b9 r0 r1 b10 p0 p1 78 ∧ at3 G q c1 c2 c3 hf hc b4 ha b5 cm b6 sp b7 b8 ln b9 r0 r1 b10 p0 p1 79 ∧ at3 G q c1 c2 c3 hf hc b4 ha b5 cm b6 sp b7 b8 ln b9 r0 r1 b10 p0 p1 80 ∧ at3 G q c1 c2 c3 hf hc b4 ha b5 cm b6 sp b7 b8 ln b9 r0 r1 b10 p0 p1 81 ∧ at3 G q c1 c2 c3 hf hc b4 ha b5 cm b6 sp b7 b8 ln b9 r0 r1 b10 p0 p1 82 ∧ at3 G q c1 c2 c3 hf hc b4 ha b5 cm b6 sp b7 b8 ln b9 r0 r1 b10 p0 p1 83 ∧ at3 G q c1 c2 c3 hf hc b4 ha b5 cm b6 sp b7 b8 ln b9 r0 r1 b10 p0 p1 84 ∧ at3 G q c1 c2 c3 hf hc b4 ha b5 cm b6 sp b7 b8 ln b9 r0 r1 b10 p0 p1 85 ∧ at3 G q c1 c2 c3 hf hc b4 ha b5 cm b6 sp b7 b8 ln b9 r0 r1 b10 p0 p1 86 ∧ at3 G q c1 c2 c3 hf hc b4 ha b5 cm b6 sp b7 b8 ln b9 r0 r1 b10 p0 p1 87 ∧ at3 G q c1 c2 c3 hf hc b4 ha b5 cm b6 sp b7 b8 ln b9 r0 r1 b10 p0 p1 88 := ⟨⟨_, rfl, fun H h => by rw [ce_obj sh78]; simp only [List.mapIdx_cons, List.mapIdx_nil, fv_]; exact h⟩, ⟨_, rfl, fun H h => by rw [ce_arr sh79]; exact h⟩, ⟨_, rfl, fun H h => by rw [ce_arr sh80]; exact h⟩, ⟨_, rfl, fun H h => by rw [ce_arr sh81]; exact h⟩, ⟨_, rfl, fun H h => by rw [ce_arr sh82]; exact h⟩, ⟨_, rfl, fun H h => by rw [ce_arr sh83]; exact h⟩, ⟨_, rfl, fun H h => by rw [ce_arr sh84]; exact h⟩, ⟨_, rfl, fun H h => by rw [ce_arr sh85]; exact h⟩, ⟨_, rfl, fun H h => by rw [ce_arr sh86]; exact h⟩, ⟨_, rfl, fun H h => by rw [ce_arr sh87]; exact h⟩, ⟨_, rfl, fun H h => by rw [ce_arr sh88]; exact h⟩⟩
set_option maxRecDepth 20000 in
theorem at3_8 {G : GX} (q : Nat) (c1 c2 c3 : Nat → Nat) (hf : Nat → Option Nat) (hc : Nat → Nat → Nat) (b4 ha b5 cm b6 sp b7 b8 ln b9 r0 r1 b10 p0 p1 : Nat) : at3 G q c1 c2 c3 hf hc b4 ha b5 cm b6 sp b7 b8 ln b9 r0 r1 b10 p0 p1 89 ∧ at3 G q c1 c2 c3 hf hc b4 ha b5 cm b6 sp b7 b8 ln b9 r0 r1 b10 p0 p1 90 ∧ at3 G q c1 c2 c3 hf hc b4 ha b5 cm b6 sp b7 b8 ln b9 r0 r1 b10 p0 p1 91 ∧ at3 G q c1 c2 c3 hf hc b4 ha b5 cm b6 sp b7 b8 ln b9 r0 r1 b10 p0 p1 92 ∧ at3 G q c1 c2 c3 hf hc b4 ha b5 cm b6 sp b7 b8 ln b9 r0 r1 b10 p0 p1 93 ∧ at3 G q c1 c2 c3 hf hc b4 ha b5 cm b6 sp b7 b8 ln b9 r0 r1 b10 p0 p1 94 ∧ at3 G q c1 c2 c3 hf hc b4 ha b5 cm b6 sp b7 b8 ln b9 r0 r1 b10 p0 p1 95 ∧ at3 G q c1 c2 c3 hf hc b4 ha b5 cm b6 sp b7 b8 ln b9 r0 r1 b10 p0 p1 96 ∧ at3 G q c1 c2 c3 hf hc b4 ha b5 cm b6 sp b7 b8 ln b9 r0 r1 b10 p0 p1 97 ∧ at3 G q c1 c2 c3 hf hc b4 ha b5 cm b6 sp b7 b8 ln b9 r0 r1 b10 p0 p1 98 ∧ at3 G q c1 c2 c3 hf hc b4 ha b5 cm b6 sp b7 b8 ln b9 r0 r1 b10 p0 p1 99 := ⟨⟨_, rfl, fun H h => by rw [ce_obj sh89]; simp only [List.mapIdx_cons, List.mapIdx_nil, fv_]; exact h⟩, ⟨_, rfl, fun H h => by rw [ce_arr sh90]; exact h⟩, ⟨_, rfl, fun H h => by rw [ce_arr sh91]; exact h⟩, ⟨_, rfl, fun H h => by rw [ce_arr sh92]; exact h⟩, ⟨_, rfl, fun H h => by rw [ce_arr sh93]; exact h⟩, ⟨_, rfl, fun H h => by rw [ce_arr sh94]; exact h⟩, ⟨_, rfl, fun H h => by rw [ce_arr sh95]; exact h⟩, ⟨_, rfl, fun H h => by rw [ce_arr sh96]; exact h⟩, ⟨_, rfl, fun H h => by rw [ce_arr sh97]; exact h⟩, ⟨_, rfl, fun H h => by rw [ce_arr sh98]; exact h⟩, ⟨_, rfl, fun H h => by rw [ce_arr sh99]; exact h⟩⟩
set_option maxRecDepth 20000 in
theorem at3_9 {G : GX} (q : Nat) (c1 c2 c3 : Nat → Nat) (hf : Nat → Option Nat) (hc : Nat → Nat → Nat) (b4 ha b5 cm b6 sp b7 b8 ln b9 r0 r1 b10 p0 p1 : Nat) : at3 G q c1 c2 c3 hf hc b4 ha b5 cm b6 sp b7 b8 ln b9 r0 r1 b10 p0 p1 100 ∧ at3 G q c1 c2 c3 hf hc b4 ha b5 cm b6 sp b7 b8 ln b9 r0 r1 b10 p0 p1 102 ∧ at3 G q c1 c2 c3 hf hc b4 ha b5 cm b6 sp b7 b8 ln b9 r0 r1 b10 p0 p1 103 ∧ at3 G q c1 c2 c3 hf hc b4 ha b5 cm b6 sp b7 b8 ln b9 r0 r1 b10 p0 p1 104 ∧ at3 G q c1 c2 c3 hf hc b4 ha b5 cm b6 sp b7 b8 ln b9 r0 r1 b10 p0 p1 105 ∧ at3 G q c1 c2 c3 hf hc b4 ha b5 cm b6 sp b7 b8 ln b9 r0 r1 b10 p0 p1 106 ∧ at3 G q c1 c2 c3 hf hc b4 ha b5 cm b6 sp b7 b8 ln b9 r0 r1 b10 p0 p1 107 ∧ at3 G q c1 c2 c3 hf hc b4 ha b5 cm b6 sp b7 b8 ln b9 r0 r1 b10 p0 p1 108 ∧ at3 G q c1 c2 c3 hf hc b4 ha b5 cm b6 sp b7 b8 ln b9 r0 r1 b10 p0 p1 109 ∧ at3 G q c1 c2 c3 hf hc b4 ha b5 cm b6 sp b7 b8 ln b9 r0 r1 b10 p0 p1 110 ∧ at3 G q c1 c2 c3 hf hc b4 ha b5 cm b6 sp b7 b8 ln b9 r0 r1 b10 p0 p1 111 ∧ at3 G q c1 c2 c3 hf hc b4 ha b5 cm b6 sp b7 b8 ln b9 r0 r1 b10 p0 p1 112 ∧ at3 G q c1 c2 c3 hf hc b4 ha b5 cm b6 sp b7 b8 ln b9 r0 r1 b10 p0 p1 113 ∧ at3 G q c1 c2 c3 hf hc b4 ha b5 cm b6 sp b7 b8 ln b9 r0 r1 b10 p0 p1 114 := ⟨⟨_, rfl, fun H h => by rw [ce_obj sh100]; simp only [List.mapIdx_cons, List.mapIdx_nil, fv_]; exact h⟩, ⟨_, rfl, fun H h => by rw [ce_obj sh102]; simp only [List.mapIdx_cons, List.mapIdx_nil, fv_]; exact h⟩, ⟨_, rfl, fun H h => by rw [ce_arr sh103]; exact h⟩, ⟨_, rfl, fun H h => by rw [ce_obj sh104]; simp only [List.mapIdx_cons, List.mapIdx_nil, fv_]; exact h⟩, ⟨_, rfl, fun H h => by rw [ce_arr sh105]; exact h⟩, ⟨_, rfl, fun H h => by rw [ce_obj sh106]; simp only [List.mapIdx_cons, List.mapIdx_nil, fv_]; exact h⟩, ⟨_, rfl, fun H h => by rw [ce_obj sh107]; simp only [List.mapIdx_cons, List.mapIdx_nil, fv_]; exact h⟩, ⟨_, rfl, fun H h => by rw [ce_arr sh108]; exact h⟩, ⟨_, rfl, fun H h => by rw [ce_obj sh109]; simp only [List.mapIdx_cons, List.mapIdx_nil, fv_]; exact h⟩, ⟨_, rfl, fun H h => by rw [ce_arr sh110]; exact h⟩, ⟨_, rfl, fun H h => by rw [ce_arr sh111]; exact h⟩, ⟨_, rfl, fun H h => by rw [ce_obj sh112]; simp only [List.mapIdx_cons, List.mapIdx_nil, fv_]; exact h⟩, ⟨_, rfl, fun H h => by rw [ce_arr sh113]; exact h⟩, ⟨_, rfl, fun H h => by rw [ce_arr sh114]; exact h⟩⟩
set_option maxRecDepth 20000 in
theorem at3_h {G : GX} (q : Nat) (c1 c2 c3 : Nat → Nat) (hf : Nat → Option Nat) (hc : Nat → Nat → Nat) (b4 ha b5 cm b6 sp b7 b8 ln b9 r0 r1 b10 p0 p1 : Nat) (hfc : ∀ j, j < 6 → hf j = some (hc j 0)) : at3 G q c1 c2 c3 hf hc b4 ha b5 cm b6 sp b7 b8 ln b9 r0 r1 b10 p0 p1 101 := ⟨_, rfl, fun H h => by
  have h : H[gA (GW G q c1 c2 c3 hf hc b4 ha b5 cm b6 sp b7 b8 ln b9 r0 r1 b10 p0 p1) 101]? = some (arrV (gC G 5) 6 (fun j => va_rf (hf j))) := h
  show H[gA (GW G q c1 c2 c3 hf hc b4 ha b5 cm b6 sp b7 b8 ln b9 r0 r1 b10 p0 p1) 101]? = some (arrV (gC G 5) 6 (fun j => va_rf (some (gA (GW G q c1 c2 c3 hf hc b4 ha b5 cm b6 sp b7 b8 ln b9 r0 r1 b10 p0 p1) (34 + 11 * j)))))
  rw [h]
  congr 1
  apply arrV_cg
  intro j hj
  rw [hfc j hj]
  rcases (by omega : j = 0 ∨ j = 1 ∨ j = 2 ∨ j = 3 ∨ j = 4 ∨ j = 5) with rfl | rfl | rfl | rfl | rfl | rfl <;> rfl⟩
theorem at3_all {G : GX} (q : Nat) (c1 c2 c3 : Nat → Nat) (hf : Nat → Option Nat) (hc : Nat → Nat → Nat) (b4 ha b5 cm b6 sp b7 b8 ln b9 r0 r1 b10 p0 p1 : Nat) (hfc : ∀ j, j < 6 → hf j = some (hc j 0)) : ∀ k, k < 115 → at3 G q c1 c2 c3 hf hc b4 ha b5 cm b6 sp b7 b8 ln b9 r0 r1 b10 p0 p1 k := by
  intro k hk
  rcases (by omega : (0 ≤ k ∧ k < 12) ∨ (12 ≤ k ∧ k < 23) ∨ (23 ≤ k ∧ k < 34) ∨ (34 ≤ k ∧ k < 45) ∨ (45 ≤ k ∧ k < 56) ∨ (56 ≤ k ∧ k < 67) ∨ (67 ≤ k ∧ k < 78) ∨ (78 ≤ k ∧ k < 89) ∨ (89 ≤ k ∧ k < 100) ∨ (100 ≤ k ∧ k < 115)) with h | h | h | h | h | h | h | h | h | h
  · obtain ⟨h0, h1, h2, h3, h4, h5, h6, h7, h8, h9, h10, h11⟩ := at3_0 (G := G) q c1 c2 c3 hf hc b4 ha b5 cm b6 sp b7 b8 ln b9 r0 r1 b10 p0 p1
    rcases (by omega : k = 0 ∨ k = 1 ∨ k = 2 ∨ k = 3 ∨ k = 4 ∨ k = 5 ∨ k = 6 ∨ k = 7 ∨ k = 8 ∨ k = 9 ∨ k = 10 ∨ k = 11) with rfl | rfl | rfl | rfl | rfl | rfl | rfl | rfl | rfl | rfl | rfl | rfl
    · exact h0
    · exact h1
    · exact h2
    · exact h3
    · exact h4
    · exact h5
    · exact h6
    · exact h7
    · exact h8
    · exact h9
    · exact h10
    · exact h11
  · obtain ⟨h12, h13, h14, h15, h16, h17, h18, h19, h20, h21, h22⟩ := at3_1 (G := G) q c1 c2 c3 hf hc b4 ha b5 cm b6 sp b7 b8 ln b9 r0 r1 b10 p0 p1
    rcases (by omega : k = 12 ∨ k = 13 ∨ k = 14 ∨ k = 15 ∨ k = 16 ∨ k = 17 ∨ k = 18 ∨ k = 19 ∨ k = 20 ∨ k = 21 ∨ k = 22) with rfl | rfl | rfl | rfl | rfl | rfl | rfl | rfl | rfl | rfl | rfl
    · exact h12
    · exact h13
    · exact h14
    · exact h15
    · exact h16
    · exact h17
    · exact h18
    · exact h19
    · exact h20
    · exact h21
    · exact h22
  · obtain ⟨h23, h24, h25, h26, h27, h28, h29, h30, h31, h32, h33⟩ := at3_2 (G := G) q c1 c2 c3 hf hc b4 ha b5 cm b6 sp b7 b8 ln b9 r0 r1 b10 p0 p1
    rcases (by omega : k = 23 ∨ k = 24 ∨ k = 25 ∨ k = 26 ∨ k = 27 ∨ k = 28 ∨ k = 29 ∨ k = 30 ∨ k = 31 ∨ k = 32 ∨ k = 33) with rfl | rfl | rfl | rfl | rfl | rfl | rfl | rfl | rfl | rfl | rfl
    · exact h23
    · exact h24
    · exact h25
    · exact h26
    · exact h27
    · exact h28
    · exact h29
    · exact h30
    · exact h31
    · exact h32
    · exact h33
  · obtain ⟨h34, h35, h36, h37, h38, h39, h40, h41, h42, h43, h44⟩ := at3_3 (G := G) q c1 c2 c3 hf hc b4 ha b5 cm b6 sp b7 b8 ln b9 r0 r1 b10 p0 p1
    rcases (by omega : k = 34 ∨ k = 35 ∨ k = 36 ∨ k = 37 ∨ k = 38 ∨ k = 39 ∨ k = 40 ∨ k = 41 ∨ k = 42 ∨ k = 43 ∨ k = 44) with rfl | rfl | rfl | rfl | rfl | rfl | rfl | rfl | rfl | rfl | rfl
    · exact h34
    · exact h35
    · exact h36
    · exact h37
    · exact h38
    · exact h39
    · exact h40
    · exact h41
    · exact h42
    · exact h43
    · exact h44
  · obtain ⟨h45, h46, h47, h48, h49, h50, h51, h52, h53, h54, h55⟩ := at3_4 (G := G) q c1 c2 c3 hf hc b4 ha b5 cm b6 sp b7 b8 ln b9 r0 r1 b10 p0 p1
    rcases (by omega : k = 45 ∨ k = 46 ∨ k = 47 ∨ k = 48 ∨ k = 49 ∨ k = 50 ∨ k = 51 ∨ k = 52 ∨ k = 53 ∨ k = 54 ∨ k = 55) with rfl | rfl | rfl | rfl | rfl | rfl | rfl | rfl | rfl | rfl | rfl
    · exact h45
    · exact h46
    · exact h47
    · exact h48
    · exact h49
    · exact h50
    · exact h51
    · exact h52
    · exact h53
    · exact h54
    · exact h55
  · obtain ⟨h56, h57, h58, h59, h60, h61, h62, h63, h64, h65, h66⟩ := at3_5 (G := G) q c1 c2 c3 hf hc b4 ha b5 cm b6 sp b7 b8 ln b9 r0 r1 b10 p0 p1
    rcases (by omega : k = 56 ∨ k = 57 ∨ k = 58 ∨ k = 59 ∨ k = 60 ∨ k = 61 ∨ k = 62 ∨ k = 63 ∨ k = 64 ∨ k = 65 ∨ k = 66) with rfl | rfl | rfl | rfl | rfl | rfl | rfl | rfl | rfl | rfl | rfl
    · exact h56
    · exact h57
    · exact h58
    · exact h59
    · exact h60
    · exact h61
    · exact h62
    · exact h63
    · exact h64
    · exact h65
    · exact h66
  · obtain ⟨h67, h68, h69, h70, h71, h72, h73, h74, h75, h76, h77⟩ := at3_6 (G := G) q c1 c2 c3 hf hc b4 ha b5 cm b6 sp b7 b8 ln b9 r0 r1 b10 p0 p1
    rcases (by omega : k = 67 ∨ k = 68 ∨ k = 69 ∨ k = 70 ∨ k = 71 ∨ k = 72 ∨ k = 73 ∨ k = 74 ∨ k = 75 ∨ k = 76 ∨ k = 77) with rfl | rfl | rfl | rfl | rfl | rfl | rfl | rfl | rfl | rfl | rfl
    · exact h67
    · exact h68
    · exact h69
    · exact h70
    · exact h71
    · exact h72
    · exact h73
    · exact h74
    · exact h75
    · exact h76
    · exact h77
  · obtain ⟨h78, h79, h80, h81, h82, h83, h84, h85, h86, h87, h88⟩ := at3_7 (G := G) q c1 c2 c3 hf hc b4 ha b5 cm b6 sp b7 b8 ln b9 r0 r1 b10 p0 p1
    rcases (by omega : k = 78 ∨ k = 79 ∨ k = 80 ∨ k = 81 ∨ k = 82 ∨ k = 83 ∨ k = 84 ∨ k = 85 ∨ k = 86 ∨ k = 87 ∨ k = 88) with rfl | rfl | rfl | rfl | rfl | rfl | rfl | rfl | rfl | rfl | rfl
    · exact h78
    · exact h79
    · exact h80
    · exact h81
    · exact h82
    · exact h83
    · exact h84
    · exact h85
    · exact h86
    · exact h87
    · exact h88
  · obtain ⟨h89, h90, h91, h92, h93, h94, h95, h96, h97, h98, h99⟩ := at3_8 (G := G) q c1 c2 c3 hf hc b4 ha b5 cm b6 sp b7 b8 ln b9 r0 r1 b10 p0 p1
    rcases (by omega : k = 89 ∨ k = 90 ∨ k = 91 ∨ k = 92 ∨ k = 93 ∨ k = 94 ∨ k = 95 ∨ k = 96 ∨ k = 97 ∨ k = 98 ∨ k = 99) with rfl | rfl | rfl | rfl | rfl | rfl | rfl | rfl | rfl | rfl | rfl
    · exact h89
    · exact h90
    · exact h91
    · exact h92
    · exact h93
    · exact h94
    · exact h95
    · exact h96
    · exact h97
    · exact h98
    · exact h99
  · obtain ⟨h100, h102, h103, h104, h105, h106, h107, h108, h109, h110, h111, h112, h113, h114⟩ := at3_9 (G := G) q c1 c2 c3 hf hc b4 ha b5 cm b6 sp b7 b8 ln b9 r0 r1 b10 p0 p1
    rcases (by omega : k = 100 ∨ k = 101 ∨ k = 102 ∨ k = 103 ∨ k = 104 ∨ k = 105 ∨ k = 106 ∨ k = 107 ∨ k = 108 ∨ k = 109 ∨ k = 110 ∨ k = 111 ∨ k = 112 ∨ k = 113 ∨ k = 114) with rfl | rfl | rfl | rfl | rfl | rfl | rfl | rfl | rfl | rfl | rfl | rfl | rfl | rfl | rfl
    · exact h100
    · exact at3_h q c1 c2 c3 hf hc b4 ha b5 cm b6 sp b7 b8 ln b9 r0 r1 b10 p0 p1 hfc
    · exact h102
    · exact h103
    · exact h104
    · exact h105
    · exact h106
    · exact h107
    · exact h108
    · exact h109
    · exact h110
    · exact h111
    · exact h112
    · exact h113
    · exact h114
theorem vS_cg {N : Nat} {len : List Nat} {byt : List (List Int32)} {a1 a2 b1 b2 : Nat → Nat} {A : Nat → Prop} {U : State} {H : Heap} (h : vS_ N len byt a1 a2 A U H) (h1 : ∀ i, i < N → b1 i = a1 i) (h2 : ∀ i, i < N → b2 i = a2 i) : vS_ N len byt b1 b2 A U H := fun i hi => by
  rw [h1 i hi, h2 i hi]
  exact h i hi
