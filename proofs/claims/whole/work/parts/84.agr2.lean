/-! What both answer is the same. -/
theorem numR.uniq {kss ks z1 z2 k1 k2} (h1 : numR kss ks z1 k1) (h2 : numR kss ks z2 k2) : z1 = z2 ∧ k1 = k2 := by
  rcases h1 with ⟨i, a1, a2, a3, a4, a5⟩ | ⟨a1, a2, a3, a4⟩ | ⟨a1, a2, a3, a4⟩ <;> rcases h2 with ⟨j, b1, b2, b3, b4, b5⟩ | ⟨b1, b2, b3, b4⟩ | ⟨b1, b2, b3, b4⟩
  · have e : i = j := by
      rcases Nat.lt_trichotomy i j with g | g | g
      · exact absurd a2 (b3 i g)
      · exact g
      · exact absurd b2 (a3 j g)
    exact ⟨by rw [a4, b4, e], by rw [a5, b5]⟩
  · exact absurd a2 (b1 i)
  · exact absurd a2 (b1 i)
  · exact absurd b2 (a1 j)
  · exact ⟨by rw [a3, b3], by rw [a4, b4]⟩
  · omega
  · exact absurd b2 (a1 j)
  · omega
  · exact ⟨by rw [a3, b3], by rw [a4, b4]⟩
theorem lix.uniq {ks : List Int} (hs : ks.Pairwise (· < ·)) {x z1 z2 : Int} (h1 : lix ks x z1) (h2 : lix ks x z2) : z1 = z2 := by
  rcases h1 with ⟨a, a1, a2, a3⟩ | ⟨a, a1⟩ <;> rcases h2 with ⟨b, b1, b2, b3⟩ | ⟨b, b1⟩
  · have := getD_inj hs (i := z1.toNat) (j := z2.toNat) (by omega) (by omega) (by rw [a3, b3])
    omega
  · exact absurd a b
  · exact absurd b a
  · omega
def kssOK (kss : List (List Int)) : Prop := ∀ (g : Nat) (ks : List Int), kss[g]? = some ks → gkM ks
theorem isH.ok {kss : List (List Int)} (h : kssOK kss) {x : Int} {ks : List Int} (hx : isH kss x ks) : gkM ks := h _ _ hx.2.2
theorem agr_choose {chs n p z1 z2 c1 c2} (h1 : sChoose chs n p z1 c1) (h2 : sChoose chs n p z2 c2) : z1 = z2 ∧ c1 = c2 := by
  rcases h1 with ⟨a, a1, a2⟩ | ⟨a, a1, a2⟩ <;> rcases h2 with ⟨b, b1, b2⟩ | ⟨b, b1, b2⟩
  · exact ⟨by rw [a1, b1], by rw [a2, b2]⟩
  · exact absurd a b
  · exact absurd b a
  · exact ⟨by rw [a1, b1], by rw [a2, b2]⟩
theorem agr_group {kss chs z1 z2 k1 k2} (h1 : sGroup kss chs z1 k1) (h2 : sGroup kss chs z2 k2) : z1 = z2 ∧ k1 = k2 := by
  rcases h1 with ⟨a, a1, a2⟩ | ⟨a, a1, a2⟩ <;> rcases h2 with ⟨b, b1, b2⟩ | ⟨b, b1, b2⟩
  · rw [a1.uniq b1] at a2
    exact a2.uniq b2
  · exact absurd ⟨a, a1⟩ b
  · exact absurd ⟨b, b1⟩ a
  · exact ⟨by rw [a1, b1], by rw [a2, b2]⟩
theorem agr_product {kss x i j z1 z2} (hk : kssOK kss) (h1 : sProduct kss x i j z1) (h2 : sProduct kss x i j z2) : z1 = z2 := by
  rcases h1 with ⟨a, a1⟩ | ⟨ks, a, a1⟩ <;> rcases h2 with ⟨b, b1⟩ | ⟨ks2, b, b1⟩
  · rw [a1, b1]
  · exact absurd a b.not
  · exact absurd b a.not
  · obtain rfl := a.uniq b
    rcases a1 with ⟨q, e⟩ | ⟨q1, q2, e⟩ <;> rcases b1 with ⟨r, f⟩ | ⟨r1, r2, f⟩
    · rw [e, f]
    · exact absurd ⟨r1, r2⟩ q
    · exact absurd ⟨q1, q2⟩ r
    · exact e.uniq (a.ok hk).2.1 f
theorem agr_find {kss x n p z1 z2} (hk : kssOK kss) (h1 : sFind kss x n p z1) (h2 : sFind kss x n p z2) : z1 = z2 := by
  rcases h1 with ⟨a, a1⟩ | ⟨ks, a, a1, a2, a3⟩ <;> rcases h2 with ⟨b, b1⟩ | ⟨ks2, b, b1, b2, b3⟩
  · rw [a1, b1]
  · rcases a with a | a | a
    · exact absurd a b.not
    · exact absurd b1 a
    · exact absurd b2 a
  · rcases b with b | b | b
    · exact absurd b a.not
    · exact absurd a1 b
    · exact absurd a2 b
  · obtain rfl := a.uniq b
    exact a3.uniq (a.ok hk).2.1 b3
theorem agr_both {kss x y z1 z2 k1 k2} (h1 : sBoth kss x y z1 k1) (h2 : sBoth kss x y z2 k2) : z1 = z2 ∧ k1 = k2 := by
  rcases h1 with ⟨a, a1, a2⟩ | ⟨ka, kb, a, a1, a2⟩ <;> rcases h2 with ⟨b, b1, b2⟩ | ⟨kc, kd, b, b1, b2⟩
  · exact ⟨by rw [a1, b1], by rw [a2, b2]⟩
  · rcases a with a | a
    · exact absurd a b.not
    · exact absurd a b1.not
  · rcases b with b | b
    · exact absurd b a.not
    · exact absurd b a1.not
  · obtain rfl := a.uniq b
    obtain rfl := a1.uniq b1
    exact a2.uniq b2
theorem agr_centre {kss x z1 z2 k1 k2} (h1 : sCentre kss x z1 k1) (h2 : sCentre kss x z2 k2) : z1 = z2 ∧ k1 = k2 := by
  rcases h1 with ⟨a, a1, a2⟩ | ⟨ka, a, a2⟩ <;> rcases h2 with ⟨b, b1, b2⟩ | ⟨kb, b, b2⟩
  · exact ⟨by rw [a1, b1], by rw [a2, b2]⟩
  · exact absurd a b.not
  · exact absurd b a.not
  · obtain rfl := a.uniq b
    exact a2.uniq b2
theorem agr_keepers {kss x p z1 z2 k1 k2} (h1 : sKeepers kss x p z1 k1) (h2 : sKeepers kss x p z2 k2) : z1 = z2 ∧ k1 = k2 := by
  rcases h1 with ⟨a, a1, a2⟩ | ⟨ka, a, a1, a2⟩ <;> rcases h2 with ⟨b, b1, b2⟩ | ⟨kb, b, b1, b2⟩
  · exact ⟨by rw [a1, b1], by rw [a2, b2]⟩
  · rcases a with a | a
    · exact absurd a b.not
    · exact absurd b1 a
  · rcases b with b | b
    · exact absurd b a.not
    · exact absurd a1 b
  · obtain rfl := a.uniq b
    exact a2.uniq b2
theorem agr_within {kss x y z1 z2} (h1 : sWithin kss x y z1) (h2 : sWithin kss x y z2) : z1 = z2 := by
  rcases h1 with ⟨a, a1⟩ | ⟨ka, kb, a, a1, a2⟩ <;> rcases h2 with ⟨b, b1⟩ | ⟨kc, kd, b, b1, b2⟩
  · rw [a1, b1]
  · rcases a with a | a
    · exact absurd a b.not
    · exact absurd a b1.not
  · rcases b with b | b
    · exact absurd b a.not
    · exact absurd b a1.not
  · obtain rfl := a.uniq b
    obtain rfl := a1.uniq b1
    rcases a2 with ⟨e, q⟩ | ⟨e, q⟩ <;> rcases b2 with ⟨f, r⟩ | ⟨f, r⟩
    · rw [e, f]
    · exact absurd q r
    · exact absurd r q
    · rw [e, f]
theorem trn_ord {ks : List Int} (h : isG ks) (hl : ks.length ≤ 192) {k z1 z2 : Int} (hk : k ∈ ks) (h1 : trn k z1) (h2 : ordR k z2) : z1 = z2 := by
  rcases h1 with ⟨a1, a2, a3, a4⟩ | ⟨_, a⟩
  · obtain ⟨b1, b2, b3⟩ := h2
    rcases Int.lt_trichotomy z1 z2 with g | g | g
    · exact absurd a3 (b3 z1.toNat (by omega) (by omega))
    · exact g
    · exact absurd b2 (a4 z2.toNat (by omega) (by omega))
  · exfalso
    rcases a with ⟨j, _, _, e⟩ | a
    · exact h.ne (powK_in h hk j) e
    · obtain ⟨d, d1, d2, d3⟩ := pow_end h hk
      exact a d d1 (by omega) d3
theorem agr_of {kss x k w z1 z2} (hk : kssOK kss) (h1 : sOf kss x k w z1) (h2 : sOfR kss x k w z2) : z1 = z2 := by
  rcases h1 with ⟨a, a1⟩ | ⟨ks, a, a1⟩ <;> rcases h2 with ⟨b, b1⟩ | ⟨ks2, b, b1, b2, b3⟩
  · rw [a1, b1]
  · exact absurd a b.not
  · rcases a1 with ⟨q, e⟩ | ⟨q1, q2, e⟩
    · rw [e, b1]
    · exact absurd ⟨ks, a, q1, q2⟩ b
  · obtain rfl := a.uniq b
    rcases a1 with ⟨q, e⟩ | ⟨q1, q2, e⟩
    · exact absurd ⟨b1, b2⟩ q
    · have hg := a.ok hk
      rcases e with ⟨w1, e⟩ | ⟨w1, e⟩ | ⟨w1, e⟩ | ⟨w1, e⟩ | ⟨w1, e⟩ | ⟨w1, e⟩ <;> rcases b3 with ⟨w2, f⟩ | ⟨w2, f⟩ | ⟨w2, f⟩ | ⟨w2, f⟩ | ⟨w2, f⟩ | ⟨w2, f⟩ <;> first | (exfalso; omega) | exact e.trans f.symm | exact trn_ord hg.1 hg.2.2 (getD_mem (by omega)) e f
theorem agr_orbit {kss x pl w z1 z2} (hk : kssOK kss) (h1 : sOrbit kss x pl w z1) (h2 : ((noH kss x ∨ ¬ isPl pl) ∧ z2 = -1) ∨ ∃ ks, isH kss x ks ∧ isPl pl ∧ ((w = -2 ∧ z2 = ((keepK ks pl).length : Int)) ∨ (w = -3 ∧ z2 = clsR (aT (keepK ks pl) (keepK ks pl).length) (bT (keepK ks pl) (keepK ks pl).length)) ∨ (w ≠ -2 ∧ w ≠ -3 ∧ ∃ L : List Int, L.Pairwise (· < ·) ∧ orbL ks pl ks.length L ∧ ((w = -1 ∧ z2 = (L.length : Int)) ∨ (w ≠ -1 ∧ z2 = lat L w))))) : z1 = z2 := by
  rcases h1 with ⟨a, a1⟩ | ⟨ks, a, a1, a2⟩ <;> rcases h2 with ⟨b, b1⟩ | ⟨ks2, b, b1, b2⟩
  · rw [a1, b1]
  · rcases a with a | a
    · exact absurd a b.not
    · exact absurd b1 a
  · rcases b with b | b
    · exact absurd b a.not
    · exact absurd a1 b
  · obtain rfl := a.uniq b
    have hg := a.ok hk
    rcases a2 with ⟨w1, e⟩ | ⟨w1, e⟩ | ⟨w1, w1', L, l1, l2, l3⟩ <;> rcases b2 with ⟨w2, f⟩ | ⟨w2, f⟩ | ⟨w2, w2', M, m1, m2, m3⟩ <;> first | omega | (rw [e, f]; done) | skip
    · rw [f]
      exact cls_eq (keepG hg.1 hg.2.1 a1) (selT_sorted hg.2.1 (Nat.le_refl _)) e
    · have hLM : L = M := lt_ext l1 m1 (fun y => (l2 y).trans (m2 y).symm)
      subst hLM
      rcases l3 with ⟨q, e⟩ | ⟨q, e⟩ <;> rcases m3 with ⟨r, f⟩ | ⟨r, f⟩
      · rw [e, f]
      · exact absurd q r
      · exact absurd r q
      · rw [e, f]
theorem selT_congr {ks : List Int} {p q : Nat → Prop} : ∀ {n : Nat}, (∀ i, i < n → (p i ↔ q i)) → selT ks p n = selT ks q n
  | 0, _ => rfl
  | n + 1, h => by
    have ih := selT_congr (ks := ks) (n := n) (fun i hi => h i (by omega))
    by_cases g : p n
    · rw [selT_t g, selT_t ((h n (by omega)).mp g), ih]
    · rw [selT_f g, selT_f (fun r => g ((h n (by omega)).mpr r)), ih]
