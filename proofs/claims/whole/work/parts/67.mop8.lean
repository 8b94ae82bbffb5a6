/-! The reference: all HALVES, in their order; pure. -/
theorem lexG.trans {n : Nat} {S T U : Nat → Prop} (h1 : lexG n S T) (h2 : lexG n T U) : lexG n S U := by
  obtain ⟨e, a1, a2, a3, a4⟩ := h1
  obtain ⟨f, b1, b2, b3, b4⟩ := h2
  rcases Nat.lt_trichotomy e f with g | g | g
  · exact ⟨e, a1, fun j hj => (a2 j hj).trans (b2 j (by omega)), a3, fun q => a4 ((b2 e g).mpr q)⟩
  · subst g
    exact absurd b3 a4
  · exact ⟨f, b1, fun j hj => (a2 j (by omega)).trans (b2 j hj), (a2 f g).mpr b3, b4⟩
theorem lexG.irr {n : Nat} {S T : Nat → Prop} (h : lexG n S T) (e : ∀ i, i < n → (S i ↔ T i)) : False := by
  obtain ⟨x, a1, a2, a3, a4⟩ := h
  exact a4 ((e x a1).mp a3)
theorem lexG.congr {n : Nat} {S T S' T' : Nat → Prop} (h : lexG n S T) (e1 : ∀ i, i < n → (S i ↔ S' i)) (e2 : ∀ i, i < n → (T i ↔ T' i)) : lexG n S' T' := by
  obtain ⟨x, a1, a2, a3, a4⟩ := h
  exact ⟨x, a1, fun j hj => (e1 j (by omega)).symm.trans ((a2 j hj).trans (e2 j (by omega))), (e1 x a1).mp a3, fun q => a4 ((e2 x a1).mpr q)⟩
theorem chiB.congr {ks : List Int} {S T : Nat → Prop} (h : chiB ks S) (e : ∀ i, i < ks.length → (S i ↔ T i)) : chiB ks T := fun x y z hx hy hz q => by
  rw [← e x hx, ← e y hy, ← e z hz]
  exact h x y z hx hy hz q
theorem gSg.congr {ks gs : List Int} {ch : Nat} {S T : Nat → Prop} (h : gSg ks gs ch S) (e : ∀ i, i < ks.length → (S i ↔ T i)) : gSg ks gs ch T := fun i s hi hs q => by
  rw [← e s hs]
  exact h i s hi hs q
def bJ (fj : Nat → Int64) (base k i : Nat) : Prop := bt3 (fj (base + 3 * k)) (fj (base + 3 * k + 1)) (fj (base + 3 * k + 2)) i = true
def HVI (ks gs : List Int) (fj : Nat → Int64) (base h c : Nat) : Prop :=
  h < c ∧ (∀ k, k < h → chiB ks (bJ fj base k) ∧ (∃ c', 1 ≤ c' ∧ c' < c ∧ gSg ks gs c' (bJ fj base k)) ∧ ∀ j, ks.length ≤ j → j < 192 → ¬ bJ fj base k j) ∧ (∀ k1 k2, k1 < k2 → k2 < h → lexG ks.length (bJ fj base k1) (bJ fj base k2)) ∧ ∀ c', 1 ≤ c' → c' < c → ∀ S, chiB ks S → gSg ks gs c' S → ∃ k, k < h ∧ ∀ i, i < ks.length → (S i ↔ bJ fj base k i)
theorem HVI.start (ks gs : List Int) (fj : Nat → Int64) (base : Nat) : HVI ks gs fj base 0 1 := ⟨by omega, fun k hk => by omega, fun _ _ _ q => by omega, fun c' a b => by omega⟩
theorem HVI.no {ks gs : List Int} {fj : Nat → Int64} {base h c : Nat} (H : HVI ks gs fj base h c) (hn : ¬ ∃ S, chiB ks S ∧ gSg ks gs c S) : HVI ks gs fj base h (c + 1) := by
  refine ⟨by have := H.1; omega, fun k hk => ?_, H.2.2.1, fun c' a b S hS hg => ?_⟩
  · obtain ⟨q1, ⟨c', r1, r2, r3⟩, q3⟩ := H.2.1 k hk
    exact ⟨q1, ⟨c', r1, by omega, r3⟩, q3⟩
  · rcases Nat.lt_or_ge c' c with g | g
    · exact H.2.2.2 c' a g S hS hg
    · obtain rfl : c' = c := by omega
      exact absurd ⟨S, hS, hg⟩ hn
theorem bits_ne {a b m : Nat} (ha : a < 2 ^ m) (hb : b < 2 ^ m) (h : a ≠ b) : ∃ i, i < m ∧ a.testBit i ≠ b.testBit i := by
  apply Classical.byContradiction
  intro hc
  apply h
  refine Nat.eq_of_testBit_eq fun i => ?_
  rcases Nat.lt_or_ge i m with g | g
  · exact Classical.byContradiction fun q => hc ⟨i, g, q⟩
  · rw [Nat.testBit_lt_two_pow (Nat.lt_of_lt_of_le ha (Nat.pow_le_pow_right (by decide) g)), Nat.testBit_lt_two_pow (Nat.lt_of_lt_of_le hb (Nat.pow_le_pow_right (by decide) g))]
theorem bits_ex : ∀ (m : Nat) (p : Nat → Bool), ∃ c, c < 2 ^ m ∧ ∀ i, i < m → c.testBit i = p i
  | 0, p => ⟨0, by simp, fun i hi => absurd hi (Nat.not_lt_zero _)⟩
  | m + 1, p => by
    obtain ⟨c, hc, hi⟩ := bits_ex m p
    cases hp : p m with
    | false =>
      refine ⟨c, by rw [Nat.pow_succ]; omega, fun i h => ?_⟩
      rcases Nat.lt_or_ge i m with g | g
      · exact hi i g
      · obtain rfl : i = m := by omega
        rw [Nat.testBit_lt_two_pow hc, hp]
    | true =>
      refine ⟨2 ^ m + c, by rw [Nat.pow_succ]; omega, fun i h => ?_⟩
      rcases Nat.lt_or_ge i m with g | g
      · rw [Nat.testBit_two_pow_add_gt g]
        exact hi i g
      · obtain rfl : i = m := by omega
        rw [Nat.testBit_two_pow_add_eq, Nat.testBit_lt_two_pow hc, hp]
        rfl
/-- signs of the generators tell all signs -/
theorem gen_uniq {ks gs : List Int} (hG : isG ks) (hs : ks.Pairwise (· < ·)) (hgs : ∀ a ∈ gs, a ∈ ks) (hall : ∀ x ∈ ks, Reach gs x) {ch : Nat} {S T : Nat → Prop} (hS : chiB ks S) (hT : chiB ks T) (h1 : gSg ks gs ch S) (h2 : gSg ks gs ch T) : ∀ i, i < ks.length → (S i ↔ T i) := by
  have key : ∀ y ∈ ks, ∀ i, i < ks.length → ks.getD i (-1) = y → (S i ↔ T i) := by
    intro y hy
    refine (hall y hy (fun y => y ∈ ks ∧ ∀ i, i < ks.length → ks.getD i (-1) = y → (S i ↔ T i)) ⟨hG.2.1, fun i hi e => ⟨fun _ => hT.u hG hi e, fun _ => hS.u hG hi e⟩⟩ ?_).2
    intro y a hy ha hn
    have hak := hgs a ha
    refine ⟨hG.2.2.2 y hy.1 a hak, fun i hi e => ?_⟩
    obtain ⟨yi, hyi, ey⟩ := mem_getD hy.1
    obtain ⟨s, hs2, es⟩ := mem_getD hak
    obtain ⟨r, hr, er⟩ := mem_getD ha
    have q1 := hS yi s i hyi hs2 hi (by rw [ey, es, e])
    have q2 := hT yi s i hyi hs2 hi (by rw [ey, es, e])
    rw [q1, q2, hy.2 yi hyi ey, h1 r s hr hs2 (es.trans er.symm), h2 r s hr hs2 (es.trans er.symm)]
  intro i hi
  exact key _ (getD_mem hi) i hi rfl
theorem HVI.yes {ks gs : List Int} (hG : isG ks) (hs : ks.Pairwise (· < ·)) (hgs : ∀ a ∈ gs, a ∈ ks) (hall : ∀ x ∈ ks, Reach gs x) {fj f1 : Nat → Int64} {base h c p : Nat} {a b w : Int64} {mk : Nat → Int} (H : HVI ks gs fj base h c) (hc : c < 2 ^ gs.length) (hcc : 1 ≤ c) (hl : ks.length ≤ 192) (hh : h < 127) (hI : insJ fj f1 base h p a b w) (hw : wrd mk ks.length a b w) (hS : chiB ks (fun t => mk t = 1)) (hg : gSg ks gs c (fun t => mk t = 1)) : HVI ks gs f1 base (h + 1) (c + 1) := by
  obtain ⟨i1, i2, ⟨i3, i4, i5⟩, i6, -, i7, i8⟩ := hI
  have e0 : ∀ i, i < ks.length → (bJ f1 base p i ↔ mk i = 1) := fun i hi => by
    show bt3 _ _ _ i = true ↔ _
    rw [i3, i4, i5, hw i (by omega)]
    exact ⟨fun q => q.2, fun q => ⟨hi, q⟩⟩
  have e1 : ∀ k, k < p → ∀ i, bJ f1 base k i ↔ bJ fj base k i := fun k hk i => by
    show bt3 _ _ _ i = true ↔ bt3 _ _ _ i = true
    rw [i2 _ (by omega), i2 _ (by omega), i2 _ (by omega)]
  have e2 : ∀ k, p ≤ k → k < h → ∀ i, bJ f1 base (k + 1) i ↔ bJ fj base k i := fun k hk hk2 i => by
    have q0 : f1 (base + 3 * (k + 1)) = fj (base + 3 * k) := i6 k 0 hk hk2 (by omega)
    have q1 := i6 k 1 hk hk2 (by omega)
    have q2 := i6 k 2 hk hk2 (by omega)
    show bt3 _ _ _ i = true ↔ bt3 _ _ _ i = true
    rw [q0, q1, q2]
  have eM : ∀ i, i < 192 → (bt3 a b w i = true ↔ i < ks.length ∧ mk i = 1) := hw
  have dist : ∀ k, k < h → ¬ ∀ i, i < ks.length → (bJ fj base k i ↔ mk i = 1) := fun k hk q => by
    obtain ⟨_, ⟨c', r1, r2, r3⟩, _⟩ := H.2.1 k hk
    obtain ⟨i, hi, hne⟩ := bits_ne (a := c') (b := c) (by omega) hc (by omega)
    obtain ⟨s, hs, es⟩ := mem_getD (hgs _ (getD_mem hi))
    have q1 := r3 i s hi hs es
    have q2 := hg i s hi hs es
    rw [q s hs] at q1
    have q3 : c'.testBit i = false ↔ c.testBit i = false := q1.symm.trans q2
    apply hne
    cases h1 : c'.testBit i <;> cases h2 : c.testBit i <;> simp_all
  -- behind the new one
  have aft : ∀ k, p ≤ k → k < h → lexG ks.length (bJ f1 base p) (bJ f1 base (k + 1)) := fun k hk hk2 => by
    obtain ⟨e, q1, q2, q3, q4⟩ := ah_lex (i7 k hk hk2)
    have q3 := (eM e q1).mp q3
    refine ⟨e, q3.1, fun j hj => ?_, (e0 e q3.1).mpr q3.2, fun q => q4 ((e2 k hk hk2 e).mp q)⟩
    rw [e0 j (by omega), e2 k hk hk2 j]
    have q2 := q2 j hj
    have q5 := eM j (by omega)
    constructor
    · intro r
      exact q2.mp (q5.mpr ⟨by omega, r⟩)
    · intro r
      exact (q5.mp (q2.mpr r)).2
  have bef1 : 0 < p → lexG ks.length (bJ f1 base (p - 1)) (bJ f1 base p) := fun hp => by
    have hno : ¬ ah3 a b w (fj (base + 3 * (p - 1))) (fj (base + 3 * (p - 1) + 1)) (fj (base + 3 * (p - 1) + 2)) := by
      rcases i8 with q | q
      · omega
      · exact q
    rcases ah_tri hno with q | ⟨q1, q2, q3⟩
    · obtain ⟨e, r1, r2, r3, r4⟩ := ah_lex q
      have hen : e < ks.length := by
        apply Classical.byContradiction
        intro g
        exact (H.2.1 (p - 1) (by omega)).2.2 e (by omega) r1 r3
      refine ⟨e, hen, fun j hj => ?_, (e1 (p - 1) (by omega) e).mpr r3, fun q => r4 ((eM e r1).mpr ⟨hen, (e0 e hen).mp q⟩)⟩
      rw [e0 j (by omega), e1 (p - 1) (by omega) j]
      have r2 := r2 j hj
      have q5 := eM j (by omega)
      constructor
      · intro r
        exact (q5.mp (r2.mp r)).2
      · intro r
        exact r2.mpr (q5.mpr ⟨by omega, r⟩)
    · exact absurd (fun i hi => by
        show bt3 _ _ _ i = true ↔ _
        rw [← q1, ← q2, ← q3, hw i (by omega)]
        exact ⟨fun q => q.2, fun q => ⟨hi, q⟩⟩) (dist (p - 1) (by omega))
  have bef : ∀ k, k < p → lexG ks.length (bJ f1 base k) (bJ f1 base p) := fun k hk => by
    rcases Nat.lt_or_ge k (p - 1) with g | g
    · refine lexG.trans ?_ (bef1 (by omega))
      exact (H.2.2.1 k (p - 1) g (by omega)).congr (fun i _ => (e1 k hk i).symm) (fun i _ => (e1 (p - 1) (by omega) i).symm)
    · rw [show k = p - 1 by omega]
      exact bef1 (by omega)
  refine ⟨by have := H.1; omega, fun k hk => ?_, fun k1 k2 h12 h2 => ?_, fun c' a1 a2 S hS2 hg2 => ?_⟩
  · rcases Nat.lt_trichotomy k p with g | g | g
    · obtain ⟨q1, ⟨c', r1, r2, r3⟩, q3⟩ := H.2.1 k (by omega)
      exact ⟨q1.congr (fun i _ => (e1 k g i).symm), ⟨c', r1, by omega, r3.congr (fun i _ => (e1 k g i).symm)⟩, fun j hj hj2 q => q3 j hj hj2 ((e1 k g j).mp q)⟩
    · subst g
      refine ⟨hS.congr (fun i hi => (e0 i hi).symm), ⟨c, hcc, by omega, hg.congr (fun i hi => (e0 i hi).symm)⟩, fun j hj hj2 q => ?_⟩
      have q : bt3 (f1 (base + 3 * k)) (f1 (base + 3 * k + 1)) (f1 (base + 3 * k + 2)) j = true := q
      rw [i3, i4, i5] at q
      have := (eM j hj2).mp q
      omega
    · obtain ⟨k', rfl⟩ : ∃ k', k = k' + 1 := ⟨k - 1, by omega⟩
      obtain ⟨q1, ⟨c', r1, r2, r3⟩, q3⟩ := H.2.1 k' (by omega)
      have e := e2 k' (by omega) (by omega)
      exact ⟨q1.congr (fun i _ => (e i).symm), ⟨c', r1, by omega, r3.congr (fun i _ => (e i).symm)⟩, fun j hj hj2 q => q3 j hj hj2 ((e j).mp q)⟩
  · rcases Nat.lt_trichotomy k2 p with g | g | g
    · exact (H.2.2.1 k1 k2 h12 (by omega)).congr (fun i _ => (e1 k1 (by omega) i).symm) (fun i _ => (e1 k2 g i).symm)
    · subst g
      exact bef k1 h12
    · obtain ⟨k', rfl⟩ : ∃ k', k2 = k' + 1 := ⟨k2 - 1, by omega⟩
      rcases Nat.lt_trichotomy k1 p with g2 | g2 | g2
      · exact (bef k1 g2).trans (aft k' (by omega) (by omega))
      · subst g2
        exact aft k' (by omega) (by omega)
      · obtain ⟨k'', rfl⟩ : ∃ k'', k1 = k'' + 1 := ⟨k1 - 1, by omega⟩
        exact (H.2.2.1 k'' k' (by omega) (by omega)).congr (fun i _ => (e2 k'' (by omega) (by omega) i).symm) (fun i _ => (e2 k' (by omega) (by omega) i).symm)
  · rcases Nat.lt_or_ge c' c with g | g
    · obtain ⟨k, hk, q⟩ := H.2.2.2 c' a1 g S hS2 hg2
      rcases Nat.lt_or_ge k p with g2 | g2
      · exact ⟨k, by omega, fun i hi => (q i hi).trans (e1 k g2 i).symm⟩
      · exact ⟨k + 1, by omega, fun i hi => (q i hi).trans (e2 k g2 hk i).symm⟩
    · obtain rfl : c' = c := by omega
      refine ⟨p, by omega, fun i hi => ?_⟩
      rw [e0 i hi]
      exact gen_uniq hG hs hgs hall hS2 hS hg2 hg i hi
/-- all HALVES of a GROUP, in their order -/
def hvR (ks : List Int) (h : Nat) (B : Nat → Nat → Prop) : Prop :=
  h ≤ 127 ∧ (∀ k, k < h → chiB ks (B k) ∧ ∃ x, x < ks.length ∧ ¬ B k x) ∧ (∀ k1 k2, k1 < k2 → k2 < h → lexG ks.length (B k1) (B k2)) ∧ ∀ S, chiB ks S → (∃ x, x < ks.length ∧ ¬ S x) → ∃ k, k < h ∧ ∀ i, i < ks.length → (S i ↔ B k i)
theorem chi_triv {ks gs : List Int} (hG : isG ks) (hgs : ∀ a ∈ gs, a ∈ ks) (hall : ∀ x ∈ ks, Reach gs x) {S : Nat → Prop} (hS : chiB ks S) (h : ∀ i s, i < gs.length → s < ks.length → ks.getD s (-1) = gs.getD i (-1) → S s) : ∀ i, i < ks.length → S i := by
  have key : ∀ y ∈ ks, ∀ i, i < ks.length → ks.getD i (-1) = y → S i := by
    intro y hy
    refine (hall y hy (fun y => y ∈ ks ∧ ∀ i, i < ks.length → ks.getD i (-1) = y → S i) ⟨hG.2.1, fun i hi e => hS.u hG hi e⟩ ?_).2
    intro y a hy ha hn
    have hak := hgs a ha
    refine ⟨hG.2.2.2 y hy.1 a hak, fun i hi e => ?_⟩
    obtain ⟨yi, hyi, ey⟩ := mem_getD hy.1
    obtain ⟨s, hs2, es⟩ := mem_getD hak
    obtain ⟨r, hr, er⟩ := mem_getD ha
    have q1 := hS yi s i hyi hs2 hi (by rw [ey, es, e])
    exact q1.mpr ⟨fun _ => h r s hr hs2 (es.trans er.symm), fun _ => hy.2 yi hyi ey⟩
  intro i hi
  exact key _ (getD_mem hi) i hi rfl
theorem HVI.done {ks gs : List Int} (hG : isG ks) (hs : ks.Pairwise (· < ·)) (hgs : ∀ a ∈ gs, a ∈ ks) (hall : ∀ x ∈ ks, Reach gs x) {fj : Nat → Int64} {base h : Nat} (hl : gs.length ≤ 7) (H : HVI ks gs fj base h (2 ^ gs.length)) : hvR ks h (bJ fj base) := by
  have hp : 2 ^ gs.length ≤ 128 := pow_le128 (by omega)
  refine ⟨by have := H.1; omega, fun k hk => ?_, H.2.2.1, fun S hS hx => ?_⟩
  · obtain ⟨q1, ⟨c', r1, r2, r3⟩, -⟩ := H.2.1 k hk
    refine ⟨q1, ?_⟩
    obtain ⟨i, hi, hne⟩ := bits_ne (a := c') (b := 0) r2 (Nat.two_pow_pos _) (by omega)
    obtain ⟨s, hs2, es⟩ := mem_getD (hgs _ (getD_mem hi))
    refine ⟨s, hs2, fun q => hne ?_⟩
    rw [(r3 i s hi hs2 es).mp q, Nat.zero_testBit]
  · obtain ⟨c', hc, hb⟩ := bits_ex gs.length (fun i => !@decide (∃ s, s < ks.length ∧ ks.getD s (-1) = gs.getD i (-1) ∧ S s) (Classical.propDecidable _))
    have hg : gSg ks gs c' S := fun i s hi hs2 e => by
      rw [hb i hi, Bool.not_eq_false']
      refine Iff.trans ?_ (@decide_eq_true_iff _ (Classical.propDecidable _)).symm
      constructor
      · exact fun q => ⟨s, hs2, e, q⟩
      · rintro ⟨s', h1, h2, h3⟩
        rw [getD_inj hs hs2 h1 (e.trans h2.symm)]
        exact h3
    refine H.2.2.2 c' ?_ hc S hS hg
    apply Classical.byContradiction
    intro g
    obtain rfl : c' = 0 := by omega
    obtain ⟨x, hx1, hx2⟩ := hx
    exact hx2 (chi_triv hG hgs hall hS (fun i s hi hs2 e => (hg i s hi hs2 e).mpr (Nat.zero_testBit i)) x hx1)
/-- there is one such row only -/
theorem hvR.uniq {ks : List Int} {h h' : Nat} {B B' : Nat → Nat → Prop} (H : hvR ks h B) (H' : hvR ks h' B') : h = h' ∧ ∀ k, k < h → ∀ i, i < ks.length → (B k i ↔ B' k i) := by
  have step : ∀ {h h' : Nat} {B B' : Nat → Nat → Prop}, hvR ks h B → hvR ks h' B' → ∀ k, k < h → k < h' ∧ ∀ i, i < ks.length → (B k i ↔ B' k i) := by
    intro h h' B B' H H' k
    induction k using Nat.strongRecOn with
    | _ k ih =>
      intro hk
      obtain ⟨m, hm, em⟩ := H'.2.2.2 (B k) (H.2.1 k hk).1 (H.2.1 k hk).2
      have hkm : k ≤ m := by
        apply Classical.byContradiction
        intro g
        obtain ⟨q1, q2⟩ := ih m (by omega) (by omega)
        exact (H.2.2.1 m k (by omega) hk).irr (fun i hi => (q2 i hi).trans (em i hi).symm)
      rcases Nat.lt_or_ge k m with g | g
      · obtain ⟨m2, hm2, em2⟩ := H.2.2.2 (B' k) (H'.2.1 k (by omega)).1 (H'.2.1 k (by omega)).2
        rcases Nat.lt_trichotomy m2 k with g2 | g2 | g2
        · obtain ⟨q1, q2⟩ := ih m2 g2 hm2
          exact absurd (fun i hi => (q2 i hi).symm.trans (em2 i hi).symm) (fun q => (H'.2.2.1 m2 k g2 (by omega)).irr q)
        · subst g2
          exact ⟨by omega, fun i hi => (em2 i hi).symm⟩
        · have a1 := H.2.2.1 k m2 g2 hm2
          have a2 := H'.2.2.1 k m g hm
          exact absurd (fun i _ => Iff.rfl) (fun q => (a1.trans (a2.congr (fun i hi => em2 i hi) (fun i hi => (em i hi).symm))).irr q)
      · obtain rfl : k = m := by omega
        exact ⟨hm, em⟩
  have e : h = h' := by
    rcases Nat.lt_trichotomy h h' with g | g | g
    · have := (step H' H h g).1; omega
    · exact g
    · have := (step H H' h' g).1; omega
  exact ⟨e, fun k hk => (step H H' k hk).2⟩
theorem emi.keep {ks L : List Int} {f : Nat → Int} (h : emi ks f L) {k : Nat} {v : Int} (hk : L.length ≤ k) : emi ks (zu f k v) L := fun j hj => by
  obtain ⟨t, h1, h2, h3⟩ := h j hj
  exact ⟨t, h1, by rw [zu_n _ _ (by omega)]; exact h2, h3⟩
theorem pow192 {m : Nat} (h : 2 ^ m ≤ 192) : m ≤ 7 := by
  apply Classical.byContradiction
  intro g
  have : 2 ^ 8 ≤ 2 ^ m := Nat.pow_le_pow_right (by decide) (by omega)
  have e : 2 ^ 8 = 256 := rfl
  omega
theorem gen_u0 : genOK [] [u0] := ⟨List.pairwise_singleton _ _, by decide, fun x => ⟨fun h => by rw [List.mem_singleton.mp h]; exact Reach.u _, fun h => h (fun y => y ∈ [u0]) (List.mem_singleton.mpr rfl) (fun y a _ ha => absurd ha List.not_mem_nil)⟩, fun x _ a ha => absurd ha List.not_mem_nil⟩
theorem gen_push {gs K K' : List Int} {x : Int} (hv : ∀ a ∈ gs, vOK a) (hx : vOK x) (h : genOK gs K) (h' : genOK (gs ++ [x]) K') (hn : K'.length ≠ K.length) (hp : 2 ^ gs.length ≤ K.length) : 2 ^ (gs ++ [x]).length ≤ K'.length := by
  have h1 := grp_double (h.isG hv) (h'.isG (fun a ha => (List.mem_append.mp ha).elim (hv a) (fun q => by rw [List.mem_singleton.mp q]; exact hx))) (gen_sub h h') hn
  rw [len_snoc, Nat.pow_succ]
  omega
theorem gen_in {gs K : List Int} {x : Int} (hx : vOK x) (h : genOK (gs ++ [x]) K) : x ∈ K := by
  refine (h.2.2.1 x).mpr ?_
  have hn : timesK u0 x ≠ -1 := by
    rw [u0_l hx.1]
    have := hx.1.1
    omega
  have := Reach.step (Reach.u (gs ++ [x])) (List.mem_append_right gs (List.mem_singleton.mpr rfl)) hn
  rw [u0_l hx.1] at this
  exact this
/-- what is known of a GROUP -/
def knOK (ks : List Int) (g : Nat) (fk fq fh : Nat → Int) (fj : Nat → Int64) : Prop := fk g = (nAlk ks : Int) ∧ (∀ k, k < ks.length → fq (192 * g + k) = (mAlk ks k : Int)) ∧ ∃ h : Nat, fh g = (h : Int) ∧ hvR ks h (bJ fj (384 * g))
def KNW (kss : List (List Int)) (fw fk fq fh : Nat → Int) (fj : Nat → Int64) : Prop := ∀ g, g < 40 → fw g = 0 ∨ (fw g = 1 ∧ ∃ ks, kss[g]? = some ks ∧ knOK ks g fk fq fh fj)
theorem KNW.num {kss kss' : List (List Int)} {ks : List Int} {z : Int} {fw fk fq fh : Nat → Int} {fj : Nat → Int64} (h : KNW kss fw fk fq fh fj) (hn : numR kss ks z kss') : KNW kss' fw fk fq fh fj := fun g hg => by
  rcases h g hg with q | ⟨q1, ks9, q2, q3⟩
  · exact Or.inl q
  · refine Or.inr ⟨q1, ks9, ?_, q3⟩
    rcases hn with ⟨_, _, _, _, _, e⟩ | ⟨_, _, _, e⟩ | ⟨_, _, _, e⟩
    · rw [e]; exact q2
    · rw [e]; exact q2
    · rw [e, List.getElem?_append_left (List.getElem?_eq_some_iff.mp q2).1]
      exact q2
theorem bJ_congr {f f1 : Nat → Int64} {g : Nat} (h : ∀ t, 384 * g ≤ t → t < 384 * g + 384 → f1 t = f t) {k : Nat} (hk : k < 128) (i : Nat) : bJ f1 (384 * g) k i ↔ bJ f (384 * g) k i := by
  unfold bJ
  rw [h _ (by omega) (by omega), h _ (by omega) (by omega), h _ (by omega) (by omega)]
theorem hvR.congr {ks : List Int} {h : Nat} {B B' : Nat → Nat → Prop} (H : hvR ks h B) (e : ∀ k, k < h → ∀ i, i < ks.length → (B k i ↔ B' k i)) : hvR ks h B' := by
  refine ⟨H.1, fun k hk => ?_, fun k1 k2 h12 h2 => (H.2.2.1 k1 k2 h12 h2).congr (e k1 (by omega)) (e k2 h2), fun S hS hx => ?_⟩
  · obtain ⟨q1, x, hx, q2⟩ := H.2.1 k hk
    exact ⟨q1.congr (e k hk), x, hx, fun q => q2 ((e k hk x hx).mpr q)⟩
  · obtain ⟨k, hk, q⟩ := H.2.2.2 S hS hx
    exact ⟨k, hk, fun i hi => (q i hi).trans (e k hk i hi)⟩
/-- another GROUP has become known -/
theorem KNW.set {kss : List (List Int)} {fw fk fq fh fk1 fq1 fh1 : Nat → Int} {fj fj1 : Nat → Int64} (h : KNW kss fw fk fq fh fj) {g : Nat} {ks : List Int} (hg : g < 40) (hk : kss[g]? = some ks) (hn : knOK ks g fk1 fq1 fh1 fj1) (hl : ∀ (g : Nat) (ks : List Int), kss[g]? = some ks → ks.length ≤ 192) (h1 : ∀ t, t ≠ g → fk1 t = fk t) (h2 : ∀ t, (t < 192 * g ∨ 192 * g + 192 ≤ t) → fq1 t = fq t) (h3 : ∀ t, t ≠ g → fh1 t = fh t) (h4 : ∀ t, (t < 384 * g ∨ 384 * g + 384 ≤ t) → fj1 t = fj t) : KNW kss (zu fw g 1) fk1 fq1 fh1 fj1 := fun g9 hg9 => by
  by_cases e : g9 = g
  · subst e
    exact Or.inr ⟨zu_s .., ks, hk, hn⟩
  · rw [zu_n _ _ e]
    rcases h g9 hg9 with q | ⟨q1, ks9, q2, q3, q4, hh, q5, q6⟩
    · exact Or.inl q
    · have hl9 := hl g9 ks9 q2
      refine Or.inr ⟨q1, ks9, q2, by rw [h1 _ e]; exact q3, fun k hk => ?_, hh, by rw [h3 _ e]; exact q5, q6.congr (fun k hk i _ => (bJ_congr (fun t a b => h4 t (by omega)) (by have := q6.1; omega) i).symm)⟩
      rw [h2 _ (by omega)]
      exact q4 k hk
