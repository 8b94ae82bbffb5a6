/-! The reference: the table of products; ALIKE sets; pure. -/
noncomputable def tix (ks : List Int) (i j : Nat) : Nat := @dite Nat (∃ t, t < ks.length ∧ ks.getD t (-1) = timesK (ks.getD i (-1)) (ks.getD j (-1))) (Classical.propDecidable _) (fun h => h.choose) (fun _ => 0)
theorem tix_ok {ks : List Int} (h : isG ks) {i j : Nat} (hi : i < ks.length) (hj : j < ks.length) : tix ks i j < ks.length ∧ ks.getD (tix ks i j) (-1) = timesK (ks.getD i (-1)) (ks.getD j (-1)) := by
  have hx : ∃ t, t < ks.length ∧ ks.getD t (-1) = timesK (ks.getD i (-1)) (ks.getD j (-1)) := mem_getD (h.2.2.2 _ (getD_mem hi) _ (getD_mem hj))
  unfold tix
  rw [dif_pos hx]
  exact hx.choose_spec
theorem tix_lix {ks : List Int} (h : isG ks) (hs : ks.Pairwise (· < ·)) {i j : Nat} (hi : i < ks.length) (hj : j < ks.length) {z : Int} (hz : lix ks (timesK (ks.getD i (-1)) (ks.getD j (-1))) z) : z = (tix ks i j : Int) := by
  obtain ⟨t1, t2⟩ := tix_ok h hi hj
  rcases hz with ⟨_, z0, z1, e⟩ | ⟨q, _⟩
  · have := getD_inj hs (i := z.toNat) (j := tix ks i j) (by omega) t1 (by rw [e, t2])
    omega
  · exact absurd (h.2.2.2 _ (getD_mem hi) _ (getD_mem hj)) q
theorem tix_eq {ks : List Int} (h : isG ks) (hs : ks.Pairwise (· < ·)) {i j a b : Nat} (hi : i < ks.length) (hj : j < ks.length) (ha : a < ks.length) (hb : b < ks.length) : (tix ks i j : Int) = (tix ks a b : Int) ↔ timesK (ks.getD i (-1)) (ks.getD j (-1)) = timesK (ks.getD a (-1)) (ks.getD b (-1)) := by
  obtain ⟨t1, t2⟩ := tix_ok h hi hj
  obtain ⟨s1, s2⟩ := tix_ok h ha hb
  rw [← t2, ← s2]
  constructor
  · intro e
    rw [show tix ks i j = tix ks a b by omega]
  · intro e
    rw [getD_inj hs t1 s1 e]
def tbOK (ks : List Int) (ft : Nat → Int) : Prop := ∀ i j, i < ks.length → j < ks.length → ft (192 * i + j) = (tix ks i j : Int)
/-- marked so far -/
def mkI (ks : List Int) (mk : Nat → Int) (st : Int) (n : Nat) : Prop :=
  (∀ b, b < ks.length → (mk b ≠ 0 ↔ ∃ a, a < n ∧ alk ks a b)) ∧ (∀ b c, b < ks.length → c < ks.length → mk b ≠ 0 → (mk b = mk c ↔ alk ks b c)) ∧ (∀ b, b < ks.length → 0 ≤ mk b ∧ mk b ≤ st) ∧ st = (cnt (fun a => ∀ b, b < a → ¬ alk ks b a) n : Int)
theorem mkI.start {ks : List Int} {mk : Nat → Int} (h : ∀ b, b < ks.length → mk b = 0) : mkI ks mk 0 0 :=
  ⟨fun b hb => ⟨fun q => absurd (h b hb) q, fun ⟨a, q, _⟩ => absurd q (Nat.not_lt_zero _)⟩, fun b c hb hc q => absurd (h b hb) q, fun b hb => by rw [h b hb]; omega, rfl⟩
theorem mkI.skip {ks : List Int} (hG : isG ks) {mk : Nat → Int} {st : Int} {n : Nat} (h : mkI ks mk st n) (hn : n < ks.length) (hm : mk n ≠ 0) : mkI ks mk st (n + 1) := by
  obtain ⟨a0, ha0, hal⟩ := (h.1 n hn).mp hm
  refine ⟨fun b hb => ?_, h.2.1, h.2.2.1, ?_⟩
  · rw [h.1 b hb]
    constructor
    · rintro ⟨a, q, r⟩
      exact ⟨a, by omega, r⟩
    · rintro ⟨a, q, r⟩
      rcases Nat.lt_or_ge a n with g | g
      · exact ⟨a, g, r⟩
      · obtain rfl : a = n := by omega
        exact ⟨a0, ha0, alk_trans hG (by omega) hn hb hal r⟩
  · rw [cnt_f (fun q => q a0 ha0 hal)]
    exact h.2.2.2
theorem mkI.next {ks : List Int} (hG : isG ks) {mk mk2 : Nat → Int} {st : Int} {n : Nat} (h : mkI ks mk st n) (hn : n < ks.length) (hm : mk n = 0) (h1 : ∀ b, b < ks.length → alk ks n b → mk2 b = st + 1) (h2 : ∀ b, b < ks.length → ¬ alk ks n b → mk2 b = mk b) : mkI ks mk2 (st + 1) (n + 1) := by
  have hno : ∀ a, a < n → ¬ alk ks a n := fun a ha q => (h.1 n hn).mpr ⟨a, ha, q⟩ hm
  have hst : 0 ≤ st := by have := h.2.2.2; omega
  have hz : ∀ b, b < ks.length → alk ks n b → mk b = 0 := fun b hb q => by
    apply Classical.byContradiction
    intro g
    obtain ⟨a, ha, r⟩ := (h.1 b hb).mp g
    exact hno a ha (alk_trans hG (by omega) hb hn r (alk_symm hG hn hb q))
  refine ⟨fun b hb => ?_, fun b c hb hc hb0 => ?_, fun b hb => ?_, ?_⟩
  · by_cases q : alk ks n b
    · rw [h1 b hb q]
      exact ⟨fun _ => ⟨n, by omega, q⟩, fun _ => by omega⟩
    · rw [h2 b hb q, h.1 b hb]
      constructor
      · rintro ⟨a, r1, r2⟩
        exact ⟨a, by omega, r2⟩
      · rintro ⟨a, r1, r2⟩
        rcases Nat.lt_or_ge a n with g | g
        · exact ⟨a, g, r2⟩
        · obtain rfl : a = n := by omega
          exact absurd r2 q
  · by_cases q : alk ks n b
    · rw [h1 b hb q]
      by_cases q2 : alk ks n c
      · rw [h1 c hc q2]
        exact ⟨fun _ => alk_trans hG hb hn hc (alk_symm hG hn hb q) q2, fun _ => rfl⟩
      · rw [h2 c hc q2]
        have := h.2.2.1 c hc
        exact ⟨fun e => by omega, fun e => absurd (alk_trans hG hn hb hc q e) q2⟩
    · rw [h2 b hb q] at hb0 ⊢
      by_cases q2 : alk ks n c
      · rw [h1 c hc q2]
        have := h.2.2.1 b hb
        exact ⟨fun e => by omega, fun e => absurd (alk_trans hG hn hc hb q2 (alk_symm hG hb hc e)) q⟩
      · rw [h2 c hc q2]
        exact h.2.1 b c hb hc hb0
  · by_cases q : alk ks n b
    · rw [h1 b hb q]; omega
    · rw [h2 b hb q]
      have := h.2.2.1 b hb
      omega
  · rw [cnt_t (p := fun a => ∀ b, b < a → ¬ alk ks b a) hno, h.2.2.2]
    omega
/-- marking the ones alike to a -/
def mkP (ks : List Int) (a c0 b0 b : Nat) : Prop := ∃ c, c < ks.length ∧ (c < c0 ∨ (c = c0 ∧ b < b0)) ∧ timesK (ks.getD b (-1)) (ks.getD c (-1)) = timesK (ks.getD c (-1)) (ks.getD a (-1))
theorem mkP_end {ks : List Int} {a c0 b0 b : Nat} (hc : c0 = ks.length) : mkP ks a c0 b0 b ↔ alk ks a b := by
  constructor
  · rintro ⟨c, hc1, -, e⟩
    exact ⟨_, getD_mem hc1, e.symm⟩
  · rintro ⟨x, hx, e⟩
    obtain ⟨c, hc1, rfl⟩ := mem_getD hx
    exact ⟨c, hc1, Or.inl (by omega), e.symm⟩
theorem mkP_row {ks : List Int} {a c0 b : Nat} {n : Nat} (hb : b < n) (hc : c0 < ks.length) : mkP ks a c0 n b ↔ mkP ks a (c0 + 1) 0 b := by
  constructor
  · rintro ⟨c, h1, h2, e⟩
    exact ⟨c, h1, Or.inl (by omega), e⟩
  · rintro ⟨c, h1, h2, e⟩
    exact ⟨c, h1, by omega, e⟩
def mkR (ks : List Int) (mk mk2 : Nat → Int) (st : Int) (a c0 b0 : Nat) : Prop := ∀ b, b < ks.length → (mkP ks a c0 b0 b → mk2 b = st) ∧ (¬ mkP ks a c0 b0 b → mk2 b = mk b)
theorem mkR.start {ks : List Int} (mk : Nat → Int) (st : Int) (a : Nat) : mkR ks mk mk st a 0 0 := fun b hb => ⟨fun ⟨c, _, q, _⟩ => by omega, fun _ => rfl⟩
theorem mkR.row {ks : List Int} {mk mk2 : Nat → Int} {st : Int} {a c0 : Nat} (h : mkR ks mk mk2 st a c0 ks.length) (hc : c0 < ks.length) : mkR ks mk mk2 st a (c0 + 1) 0 := fun b hb => by
  rw [← mkP_row (n := ks.length) hb hc]
  exact h b hb
theorem mkR.yes {ks : List Int} {mk mk2 : Nat → Int} {st : Int} {a c0 b0 : Nat} (h : mkR ks mk mk2 st a c0 b0) (hc : c0 < ks.length) (hb : b0 < ks.length) (e : timesK (ks.getD b0 (-1)) (ks.getD c0 (-1)) = timesK (ks.getD c0 (-1)) (ks.getD a (-1))) : mkR ks mk (zu mk2 b0 st) st a c0 (b0 + 1) := fun b hb9 => by
  by_cases g : b = b0
  · subst g
    rw [zu_s]
    exact ⟨fun _ => rfl, fun q => absurd ⟨c0, hc, Or.inr ⟨rfl, by omega⟩, e⟩ q⟩
  · rw [zu_n _ _ g]
    have : mkP ks a c0 (b0 + 1) b ↔ mkP ks a c0 b0 b := by
      constructor <;> rintro ⟨c, h1, h2, e2⟩ <;> exact ⟨c, h1, by omega, e2⟩
    rw [this]
    exact h b hb9
theorem mkR.no {ks : List Int} {mk mk2 : Nat → Int} {st : Int} {a c0 b0 : Nat} (h : mkR ks mk mk2 st a c0 b0) (hb : b0 < ks.length) (e : ¬ timesK (ks.getD b0 (-1)) (ks.getD c0 (-1)) = timesK (ks.getD c0 (-1)) (ks.getD a (-1))) : mkR ks mk mk2 st a c0 (b0 + 1) := fun b hb9 => by
  have : mkP ks a c0 (b0 + 1) b ↔ mkP ks a c0 b0 b := by
    constructor
    · rintro ⟨c, h1, h2, e2⟩
      refine ⟨c, h1, ?_, e2⟩
      rcases h2 with h2 | ⟨rfl, h2⟩
      · exact Or.inl h2
      · refine Or.inr ⟨rfl, ?_⟩
        rcases Nat.lt_or_ge b b0 with g | g
        · exact g
        · obtain rfl : b = b0 := by omega
          exact absurd e2 e
    · rintro ⟨c, h1, h2, e2⟩
      exact ⟨c, h1, by omega, e2⟩
  rw [this]
  exact h b hb9
theorem mkR.next {ks : List Int} (hG : isG ks) {mk mk2 : Nat → Int} {st : Int} {n c0 b0 : Nat} (hI : mkI ks mk st n) (h : mkR ks mk mk2 (st + 1) n c0 b0) (hc : c0 = ks.length) (hn : n < ks.length) (hm : mk n = 0) : mkI ks mk2 (st + 1) (n + 1) :=
  hI.next hG hn hm (fun b hb q => (h b hb).1 ((mkP_end hc).mpr q)) (fun b hb q => (h b hb).2 (fun r => q ((mkP_end hc).mp r)))
theorem mkI.many {ks : List Int} (hG : isG ks) {mk : Nat → Int} {st : Int} (h : mkI ks mk st ks.length) {a : Nat} (ha : a < ks.length) : cnt (fun b => mk a = mk b) ks.length = mAlk ks a := by
  unfold mAlk
  refine cnt_congr fun b hb => ?_
  have hn : mk a ≠ 0 := (h.1 a ha).mpr ⟨a, ha, alk_refl hG ha⟩
  rw [h.2.1 a b ha hb hn]
  exact ⟨alk_symm hG ha hb, alk_symm hG hb ha⟩
theorem mkI.sets {ks : List Int} {mk : Nat → Int} {st : Int} (h : mkI ks mk st ks.length) : st = (nAlk ks : Int) := h.2.2.2
