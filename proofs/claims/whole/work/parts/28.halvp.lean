/-! HALVES: codes of cosets of the squares. -/
/-- a group within, that has all squares -/
def sqG (ks K : List Int) : Prop := isG K ∧ (∀ x ∈ K, x ∈ ks) ∧ (∀ x ∈ ks, timesK x x ∈ K) ∧ ∃ gs : List Int, (∀ a ∈ gs, ∃ y ∈ ks, a = timesK y y) ∧ ∀ x ∈ K, Reach gs x
theorem sqG.comm {ks K : List Int} (hG : isG ks) (h : sqG ks K) {x y : Int} (hx : x ∈ ks) (hy : y ∈ ks) : ∃ c ∈ K, timesK x y = timesK c (timesK y x) := by
  obtain ⟨xi, hxi, ex1, ex2⟩ := hG.inv hx
  obtain ⟨yi, hyi, ey1, ey2⟩ := hG.inv hy
  have m := hG.2.2.2
  have hxy := m _ hx _ hy
  have hyx := m _ hy _ hx
  -- c = x x (xi y) (xi y) (yi yi)
  have hw := m _ hxi _ hy
  have h1 := h.2.2.1 x hx
  have h2 := h.2.2.1 _ hw
  have h3 := h.2.2.1 yi hyi
  refine ⟨timesK (timesK (timesK x x) (timesK (timesK xi y) (timesK xi y))) (timesK yi yi), h.1.2.2.2 _ (h.1.2.2.2 _ h1 _ h2) _ h3, ?_⟩
  have a1 : timesK (timesK x x) (timesK (timesK xi y) (timesK xi y)) = timesK (timesK x y) (timesK xi y) := by
    rw [hG.assoc hx hx (m _ hw _ hw), ← hG.assoc hx hw hw, ← hG.assoc hx hxi hy, ex1, hG.ul hy, ← hG.assoc hx hy hw]
  rw [a1, hG.assoc (m _ hxy _ hw) (m _ hyi _ hyi) hyx, hG.assoc hyi hyi hyx, ← hG.assoc hyi hy hx, ey2, hG.ul hx, hG.assoc hxy hw (m _ hyi _ hx), hG.assoc hxi hy (m _ hyi _ hx), ← hG.assoc hy hyi hx, ey1, hG.ul hx, ex2, hG.ur hxy]
def HIv (ks K : List Int) (co : Nat → Int) (b : Nat) : Prop :=
  (∀ x, x < ks.length → co x = -1 ∨ (0 ≤ co x ∧ (co x).toNat < 2 ^ b)) ∧
  (∀ x, x < ks.length → (co x = 0 ↔ ks.getD x (-1) ∈ K)) ∧
  (∀ x y z, x < ks.length → y < ks.length → z < ks.length → co x ≠ -1 → co y ≠ -1 → timesK (ks.getD x (-1)) (ks.getD y (-1)) = ks.getD z (-1) → co z = (((co x).toNat ^^^ (co y).toNat : Nat) : Int)) ∧
  (∀ v : Nat, v < 2 ^ b → ∃ x, x < ks.length ∧ co x = (v : Int)) ∧
  ∀ t, t < b → ∃ e, e < ks.length ∧ co e = ((2 ^ t : Nat) : Int) ∧ ∀ j, j < e → co j ≠ -1 ∧ (co j).toNat < 2 ^ t
theorem HIv.inv {ks K : List Int} (hG : isG ks) (hq : sqG ks K) {co : Nat → Int} {b : Nat} (h : HIv ks K co b) {x xi : Nat} (hx : x < ks.length) (hxi : xi < ks.length) (hc : co x ≠ -1) (e : timesK (ks.getD x (-1)) (ks.getD xi (-1)) = u0) : co xi = co x := by
  have mx := getD_mem hx
  have mi := getD_mem hxi
  obtain ⟨s, hs, es⟩ := mem_getD (hq.2.1 _ (hq.2.2.1 _ mi))
  have hs0 : co s = 0 := (h.2.1 s hs).mpr (by rw [es]; exact hq.2.2.1 _ mi)
  have hp : timesK (ks.getD x (-1)) (ks.getD s (-1)) = ks.getD xi (-1) := by rw [es, ← hG.assoc mx mi mi, e, hG.ul mi]
  have := h.2.2.1 x s xi hx hs hxi hc (by rw [hs0]; decide) hp
  rw [hs0] at this
  have hxx := h.1 x hx
  rw [this]
  simp
  omega
theorem HIv.out {ks K : List Int} (hG : isG ks) (hq : sqG ks K) {co : Nat → Int} {b : Nat} (h : HIv ks K co b) {x i z : Nat} (hx : x < ks.length) (hi : i < ks.length) (hz : z < ks.length) (hc : co x ≠ -1) (hci : co i = -1) (e : timesK (ks.getD x (-1)) (ks.getD i (-1)) = ks.getD z (-1)) : co z = -1 := by
  apply Classical.byContradiction
  intro hcz
  have mx := getD_mem hx
  have mi := getD_mem hi
  obtain ⟨d, hd, e1, e2⟩ := hG.inv mx
  obtain ⟨xi, hxi, exi⟩ := mem_getD hd
  have hcx := h.inv hG hq hx hxi hc (by rw [exi]; exact e1)
  have hp : timesK (ks.getD xi (-1)) (ks.getD z (-1)) = ks.getD i (-1) := by rw [exi, ← e, ← hG.assoc hd mx mi, e2, hG.ul mi]
  have := h.2.2.1 xi z i hxi hz hi (by rw [hcx]; exact hc) hcz hp
  omega
/-- one more bit -/
def HAdd (ks : List Int) (co co' : Nat → Int) (b i : Nat) : Prop :=
  (∀ x, x < ks.length → co x ≠ -1 → co' x = co x) ∧
  (∀ x z, x < ks.length → z < ks.length → co x ≠ -1 → timesK (ks.getD x (-1)) (ks.getD i (-1)) = ks.getD z (-1) → co' z = co x + ((2 ^ b : Nat) : Int)) ∧
  ∀ z, z < ks.length → co' z ≠ -1 → co z ≠ -1 ∨ ∃ x, x < ks.length ∧ co x ≠ -1 ∧ timesK (ks.getD x (-1)) (ks.getD i (-1)) = ks.getD z (-1)
theorem add_xor {c b : Nat} (hc : c < 2 ^ b) : c + 2 ^ b = c ^^^ 2 ^ b := by
  rw [← Nat.or_two_pow_eq_add_of_lt hc]
  refine Nat.eq_of_testBit_eq fun i => ?_
  rw [Nat.testBit_or, Nat.testBit_xor, Nat.testBit_two_pow]
  by_cases h : b = i
  · subst h
    rw [Nat.testBit_lt_two_pow hc]
    simp
  · simp [h]
theorem xor_add1 {a c b : Nat} (ha : a < 2 ^ b) (hc : c < 2 ^ b) : a ^^^ (c + 2 ^ b) = (a ^^^ c) + 2 ^ b := by
  rw [add_xor hc, add_xor (Nat.xor_lt_two_pow ha hc), Nat.xor_assoc]
theorem xor_add2 {a c b : Nat} (ha : a < 2 ^ b) (hc : c < 2 ^ b) : (a + 2 ^ b) ^^^ (c + 2 ^ b) = a ^^^ c := by
  rw [add_xor hc, add_xor ha, Nat.xor_assoc, Nat.xor_comm (2 ^ b), Nat.xor_assoc, Nat.xor_self, Nat.xor_zero]
theorem xor_add3 {a c b : Nat} (ha : a < 2 ^ b) (hc : c < 2 ^ b) : (a + 2 ^ b) ^^^ c = (a ^^^ c) + 2 ^ b := by
  rw [Nat.xor_comm, xor_add1 hc ha, Nat.xor_comm]
/-- within the coded ones: products with one of the squares' group keep the code -/
theorem HIv.kmul {ks K : List Int} {co : Nat → Int} {b : Nat} (h : HIv ks K co b) {c y z : Nat} (hc : c < ks.length) (hy : y < ks.length) (hz : z < ks.length) (hcK : ks.getD c (-1) ∈ K) (hcy : co y ≠ -1) (e : timesK (ks.getD c (-1)) (ks.getD y (-1)) = ks.getD z (-1)) : co z = co y := by
  have h0 := (h.2.1 c hc).mpr hcK
  have := h.2.2.1 c y z hc hy hz (by rw [h0]; decide) hcy e
  rw [h0] at this
  have hyy := h.1 y hy
  rw [this]
  simp
  omega
theorem HIv.add {ks K : List Int} (hG : isG ks) (hnd : ks.Nodup) (hq : sqG ks K) {co co' : Nat → Int} {b i : Nat} (h : HIv ks K co b) (hi : i < ks.length) (hci : co i = -1) (hbe : ∀ j, j < i → co j ≠ -1) (ha : HAdd ks co co' b i) : HIv ks K co' (b + 1) ∧ co' i = ((2 ^ b : Nat) : Int) := by
  obtain ⟨a1, a2, a3⟩ := ha
  have m := hG.2.2.2
  have hp2 : 2 ^ (b + 1) = 2 ^ b + 2 ^ b := by rw [Nat.pow_succ]; omega
  have hpos : 0 < 2 ^ b := Nat.two_pow_pos b
  have mi := getD_mem hi
  -- every coded one is of the first or the second kind
  have kind : ∀ z, z < ks.length → co' z ≠ -1 → (co z ≠ -1 ∧ co' z = co z) ∨ (co z = -1 ∧ ∃ x, x < ks.length ∧ co x ≠ -1 ∧ timesK (ks.getD x (-1)) (ks.getD i (-1)) = ks.getD z (-1) ∧ co' z = co x + ((2 ^ b : Nat) : Int)) := by
    intro z hz hc
    by_cases q : co z = -1
    · refine Or.inr ⟨q, ?_⟩
      rcases a3 z hz hc with q2 | ⟨x, hx, hcx, e⟩
      · exact absurd q q2
      · exact ⟨x, hx, hcx, e, a2 x z hx hz hcx e⟩
    · exact Or.inl ⟨q, a1 z hz q⟩
  have rng : ∀ x, x < ks.length → co x ≠ -1 → 0 ≤ co x ∧ (co x).toNat < 2 ^ b := fun x hx hc => (h.1 x hx).resolve_left hc
  have hidx : ∀ x y, x < ks.length → y < ks.length → ∃ z, z < ks.length ∧ ks.getD z (-1) = timesK (ks.getD x (-1)) (ks.getD y (-1)) := fun x y hx hy => mem_getD (m _ (getD_mem hx) _ (getD_mem hy))
  -- i y = y' i with the code of y
  have swap : ∀ y, y < ks.length → co y ≠ -1 → ∃ y', y' < ks.length ∧ co y' = co y ∧ timesK (ks.getD i (-1)) (ks.getD y (-1)) = timesK (ks.getD y' (-1)) (ks.getD i (-1)) := by
    intro y hy hcy
    obtain ⟨c, hc, e⟩ := hq.comm hG mi (getD_mem hy)
    obtain ⟨c1, hc1, ec⟩ := mem_getD (hq.2.1 c hc)
    obtain ⟨y', hy', ey⟩ := mem_getD (m _ (hq.2.1 c hc) _ (getD_mem hy))
    refine ⟨y', hy', h.kmul hc1 hy hy' (by rw [ec]; exact hc) hcy (by rw [ec, ey]), ?_⟩
    rw [e, ey, hG.assoc (hq.2.1 c hc) (getD_mem hy) mi]
  have ui : co' i = ((2 ^ b : Nat) : Int) := by
    obtain ⟨u, hu, eu⟩ := mem_getD hG.2.1
    have hu0 : co u = 0 := (h.2.1 u hu).mpr (by rw [eu]; exact hq.1.2.1)
    have := a2 u i hu hi (by rw [hu0]; decide) (by rw [eu]; exact hG.ul mi)
    rw [this, hu0]; omega
  refine ⟨⟨?_, ?_, ?_, ?_, ?_⟩, ui⟩
  · intro x hx
    by_cases q : co' x = -1
    · exact Or.inl q
    · refine Or.inr ?_
      rcases kind x hx q with ⟨c, e⟩ | ⟨_, y, hy, c, _, e⟩
      · have := rng x hx c
        rw [e, hp2]; omega
      · have := rng y hy c
        rw [e, hp2]; omega
  · intro x hx
    constructor
    · intro q
      rcases kind x hx (by rw [q]; decide) with ⟨c, e⟩ | ⟨_, y, hy, c, _, e⟩
      · exact (h.2.1 x hx).mp (by rw [← e]; exact q)
      · have := rng y hy c
        omega
    · intro q
      have := (h.2.1 x hx).mpr q
      rw [a1 x hx (by rw [this]; decide), this]
  · intro x y z hx hy hz hcx hcy e
    have mx := getD_mem hx
    have my := getD_mem hy
    rcases kind x hx hcx with ⟨cx, ex⟩ | ⟨_, x0, hx0, cx, px, ex⟩
    · rcases kind y hy hcy with ⟨cy, ey⟩ | ⟨_, y0, hy0, cy, py, ey⟩
      · have hz2 := h.2.2.1 x y z hx hy hz cx cy e
        rw [a1 z hz (by rw [hz2]; omega), hz2, ex, ey]
      · obtain ⟨w, hw, ew⟩ := hidx x y0 hx hy0
        have hw2 := h.2.2.1 x y0 w hx hy0 hw cx cy ew.symm
        have r1 := rng x hx cx
        have r2 := rng y0 hy0 cy
        have := a2 w z hw hz (by rw [hw2]; omega) (by rw [ew, hG.assoc mx (getD_mem hy0) mi, py, e])
        rw [this, hw2, ex, ey, show (co y0 + ((2 ^ b : Nat) : Int)).toNat = (co y0).toNat + 2 ^ b by omega, xor_add1 r1.2 r2.2]
        omega
    · have r1 := rng x0 hx0 cx
      have mx0 := getD_mem hx0
      rcases kind y hy hcy with ⟨cy, ey⟩ | ⟨_, y0, hy0, cy, py, ey⟩
      · have r2 := rng y hy cy
        obtain ⟨y', hy', cy', esw⟩ := swap y hy cy
        obtain ⟨w, hw, ew⟩ := hidx x0 y' hx0 hy'
        have hw2 := h.2.2.1 x0 y' w hx0 hy' hw cx (by rw [cy']; exact cy) ew.symm
        have := a2 w z hw hz (by rw [hw2]; omega) (by rw [ew, hG.assoc mx0 (getD_mem hy') mi, ← esw, ← hG.assoc mx0 mi my, px, e])
        rw [this, hw2, ex, ey, cy', show (co x0 + ((2 ^ b : Nat) : Int)).toNat = (co x0).toNat + 2 ^ b by omega, xor_add3 r1.2 r2.2]
        omega
      · have r2 := rng y0 hy0 cy
        obtain ⟨y', hy', cy', esw⟩ := swap y0 hy0 cy
        obtain ⟨w, hw, ew⟩ := hidx x0 y' hx0 hy'
        have hw2 := h.2.2.1 x0 y' w hx0 hy' hw cx (by rw [cy']; exact cy) ew.symm
        obtain ⟨s, hs, es⟩ := mem_getD (hq.2.1 _ (hq.2.2.1 _ mi))
        have hs0 : co s = 0 := (h.2.1 s hs).mpr (by rw [es]; exact hq.2.2.1 _ mi)
        have ez : timesK (ks.getD w (-1)) (ks.getD s (-1)) = ks.getD z (-1) := by
          have my0 := getD_mem hy0
          rw [ew, es, hG.assoc mx0 (getD_mem hy') (m _ mi _ mi), ← hG.assoc (getD_mem hy') mi mi, ← esw, hG.assoc mi my0 mi, py, ← hG.assoc mx0 mi my, px, e]
        have hz2 := h.2.2.1 w s z hw hs hz (by rw [hw2]; omega) (by rw [hs0]; decide) ez
        rw [a1 z hz (by rw [hz2]; omega), hz2, hs0, hw2, ex, ey, cy', show (co x0 + ((2 ^ b : Nat) : Int)).toNat = (co x0).toNat + 2 ^ b by omega, show (co y0 + ((2 ^ b : Nat) : Int)).toNat = (co y0).toNat + 2 ^ b by omega, xor_add2 r1.2 r2.2]
        simp
  · intro v hv
    rcases Nat.lt_or_ge v (2 ^ b) with q | q
    · obtain ⟨x, hx, e⟩ := h.2.2.2.1 v q
      exact ⟨x, hx, by rw [a1 x hx (by rw [e]; omega), e]⟩
    · obtain ⟨x, hx, e⟩ := h.2.2.2.1 (v - 2 ^ b) (by omega)
      obtain ⟨z, hz, ez⟩ := hidx x i hx hi
      exact ⟨z, hz, by rw [a2 x z hx hz (by rw [e]; omega) ez.symm, e]; omega⟩
  · intro t ht
    rcases Nat.lt_or_ge t b with q | q
    · obtain ⟨e, he, ee, eb⟩ := h.2.2.2.2 t q
      have hpt := Nat.two_pow_pos t
      refine ⟨e, he, by rw [a1 e he (by rw [ee]; omega), ee], fun j hj => ?_⟩
      have := eb j hj
      rw [a1 j (by omega) this.1]
      exact this
    · obtain rfl : t = b := by omega
      refine ⟨i, hi, ui, fun j hj => ?_⟩
      have hj2 := hbe j hj
      rw [a1 j (by omega) hj2]
      exact ⟨hj2, (rng j (by omega) hj2).2⟩
/-- at the start: the squares' group alone -/
theorem HIv.start {ks K : List Int} (hG : isG ks) (hq : sqG ks K) {co : Nat → Int} (h : ∀ x, x < ks.length → (ks.getD x (-1) ∈ K ∧ co x = 0) ∨ (ks.getD x (-1) ∉ K ∧ co x = -1)) : HIv ks K co 0 := by
  refine ⟨fun x hx => ?_, fun x hx => ?_, fun x y z hx hy hz hcx hcy e => ?_, fun v hv => ?_, fun t ht => absurd ht (Nat.not_lt_zero _)⟩
  · rcases h x hx with ⟨_, q⟩ | ⟨_, q⟩
    · exact Or.inr (by rw [q]; decide)
    · exact Or.inl q
  · rcases h x hx with ⟨q1, q⟩ | ⟨q1, q⟩
    · exact ⟨fun _ => q1, fun _ => q⟩
    · exact ⟨fun g => by omega, fun g => absurd g q1⟩
  · have fx := (h x hx).resolve_right (fun q => hcx q.2)
    have fy := (h y hy).resolve_right (fun q => hcy q.2)
    have fz : ks.getD z (-1) ∈ K := by rw [← e]; exact hq.1.2.2.2 _ fx.1 _ fy.1
    have fz2 := (h z hz).resolve_right (fun q => q.1 fz)
    rw [fz2.2, fx.2, fy.2]; rfl
  · obtain rfl : v = 0 := by simpa using hv
    obtain ⟨u, hu, eu⟩ := mem_getD hG.2.1
    have := (h u hu).resolve_right (fun q => q.1 (by rw [eu]; exact hq.1.2.1))
    exact ⟨u, hu, by rw [this.2]; rfl⟩
theorem HIv.bits {ks K : List Int} {co : Nat → Int} {b : Nat} (h : HIv ks K co b) (hl : ks.length ≤ 192) : b < 8 := by
  refine pow_small (k := ks.length) ?_ hl
  have hc : ∀ v : Nat, ∃ x : Nat, v < 2 ^ b → x < ks.length ∧ co x = (v : Int) := fun v => by
    by_cases q : v < 2 ^ b
    · obtain ⟨x, hx⟩ := h.2.2.2.1 v q
      exact ⟨x, fun _ => hx⟩
    · exact ⟨0, fun q2 => absurd q2 q⟩
  have := len_sub ((List.range (2 ^ b)).map fun (v : Nat) => ((Classical.choose (hc v) : Nat) : Int)) ((List.range ks.length).map fun (v : Nat) => (v : Int)) ?_ ?_
  · simpa using this
  · rw [List.nodup_iff_pairwise_ne, List.pairwise_map]
    have hn : (List.range (2 ^ b)).Pairwise (fun a b => a < b) := List.pairwise_lt_range
    refine (List.Pairwise.and_mem.mp hn).imp fun {a c} hac e => ?_
    have e1 := Classical.choose_spec (hc a) (List.mem_range.mp hac.1)
    have e2 := Classical.choose_spec (hc c) (List.mem_range.mp hac.2.1)
    have : Classical.choose (hc a) = Classical.choose (hc c) := by omega
    rw [this] at e1
    have := hac.2.2
    omega
  · intro x hx
    obtain ⟨v, hv, rfl⟩ := List.mem_map.mp hx
    have e1 := Classical.choose_spec (hc v) (List.mem_range.mp hv)
    exact List.mem_map.mpr ⟨_, List.mem_range.mpr e1.1, rfl⟩
