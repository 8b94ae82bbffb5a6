/-! what a HALF refuses -/
def revB (m : Nat) : Nat → Nat
  | 0 => 0
  | t + 1 => 2 * revB m t + m / 2 ^ t % 2
theorem revB_lt (m : Nat) : ∀ t, revB m t < 2 ^ t
  | 0 => by simp [revB]
  | t + 1 => by
    have := revB_lt m t
    have h2 : m / 2 ^ t % 2 < 2 := Nat.mod_lt _ (by decide)
    rw [Nat.pow_succ]
    show 2 * revB m t + m / 2 ^ t % 2 < _
    omega
theorem pow_le128 {t : Nat} (h : t < 8) : 2 ^ t ≤ 128 := by
  have : 2 ^ t ≤ 2 ^ 7 := Nat.pow_le_pow_right (by decide) (by omega)
  exact this
/-- the adding of a bit, as far as it has come -/
def HAddT (ks : List Int) (co co1 : Nat → Int) (b i : Nat) (n : Nat) : Prop :=
  (∀ x, x < ks.length → co x ≠ -1 → co1 x = co x) ∧
  (∀ x z, x < n → x < ks.length → z < ks.length → co x ≠ -1 → timesK (ks.getD x (-1)) (ks.getD i (-1)) = ks.getD z (-1) → co1 z = co x + ((2 ^ b : Nat) : Int)) ∧
  ∀ z, z < ks.length → co1 z ≠ -1 → co z ≠ -1 ∨ ∃ x, x < n ∧ x < ks.length ∧ co x ≠ -1 ∧ timesK (ks.getD x (-1)) (ks.getD i (-1)) = ks.getD z (-1) ∧ co1 z = co x + ((2 ^ b : Nat) : Int)
theorem HAddT.start (ks : List Int) (co : Nat → Int) (b i : Nat) : HAddT ks co co b i 0 := ⟨fun _ _ _ => rfl, fun x _ h => absurd h (Nat.not_lt_zero _), fun _ _ h => Or.inl h⟩
theorem HAddT.skip {ks : List Int} {co co1 : Nat → Int} {b i n : Nat} (h : HAddT ks co co1 b i n) (hc : co n = -1) : HAddT ks co co1 b i (n + 1) := by
  refine ⟨h.1, fun x z hx hx2 hz hcx e => ?_, fun z hz hcz => ?_⟩
  · rcases Nat.lt_or_ge x n with q | q
    · exact h.2.1 x z q hx2 hz hcx e
    · obtain rfl : x = n := by omega
      exact absurd hc hcx
  · rcases h.2.2 z hz hcz with q | ⟨x, a, b, c⟩
    · exact Or.inl q
    · exact Or.inr ⟨x, by omega, b, c⟩
theorem HAddT.step {ks K : List Int} (hG : isG ks) (hnd : ks.Nodup) (hq : sqG ks K) {co co1 : Nat → Int} {b i n k : Nat} (hH : HIv ks K co b) (h : HAddT ks co co1 b i n) (hi : i < ks.length) (hci : co i = -1) (hn : n < ks.length) (hk : k < ks.length) (hc : co n ≠ -1) (e : timesK (ks.getD n (-1)) (ks.getD i (-1)) = ks.getD k (-1)) : HAddT ks co (zu co1 k (co n + ((2 ^ b : Nat) : Int))) b i (n + 1) := by
  have hck := hH.out hG hq hn hi hk hc hci e
  refine ⟨fun x hx hcx => ?_, fun x z hx hx2 hz hcx e2 => ?_, fun z hz hcz => ?_⟩
  · rw [zu_n _ _ (fun q => hcx (by rw [q]; exact hck))]; exact h.1 x hx hcx
  · by_cases q : z = k
    · subst q
      have : x = n := getD_nd hnd hx2 hn (hG.rc (getD_mem hi) (getD_mem hx2) (getD_mem hn) (e2.trans e.symm))
      rw [zu_s, this]
    · rw [zu_n _ _ q]
      rcases Nat.lt_or_ge x n with q2 | q2
      · exact h.2.1 x z q2 hx2 hz hcx e2
      · obtain rfl : x = n := by omega
        exact absurd (getD_nd hnd hz hk (e2.symm.trans e)) q
  · by_cases q : z = k
    · subst q
      exact Or.inr ⟨n, by omega, hn, hc, e, by rw [zu_s]⟩
    · rw [zu_n _ _ q] at hcz ⊢
      rcases h.2.2 z hz hcz with q2 | ⟨x, a, b, c⟩
      · exact Or.inl q2
      · exact Or.inr ⟨x, by omega, b, c⟩
theorem HAddT.done {ks : List Int} {co co1 : Nat → Int} {b i n : Nat} (h : HAddT ks co co1 b i n) (hn : ks.length ≤ n) : HAdd ks co co1 b i := by
  refine ⟨h.1, fun x z hx hz hcx e => h.2.1 x z (by omega) hx hz hcx e, fun z hz hcz => ?_⟩
  rcases h.2.2 z hz hcz with q | ⟨x, a, b, c, d, _⟩
  · exact Or.inl q
  · exact Or.inr ⟨x, b, c, d⟩
theorem HAddT.rng {ks K : List Int} {co co1 : Nat → Int} {b i n : Nat} (hH : HIv ks K co b) (h : HAddT ks co co1 b i n) (hb : b < 8) {x : Nat} (hx : x < ks.length) : -1 ≤ co1 x ∧ co1 x < 256 := by
  have hp := pow_le128 hb
  by_cases q : co1 x = -1
  · omega
  · rcases h.2.2 x hx q with q2 | ⟨y, _, hy, cy, _, e⟩
    · have := (hH.1 x hx).resolve_left q2
      rw [h.1 x hx q2]; omega
    · have := (hH.1 y hy).resolve_left cy
      rw [e]; omega
/-- a HALF of the group, by what it refuses -/
def hpar (co : Nat → Int) (m : Nat) (i : Nat) : Prop := pcN ((co i).toNat &&& m) % 2 = 0
