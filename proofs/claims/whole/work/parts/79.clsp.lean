/-! CLASS: what the reckoning says. -/
theorem L27_all {f : Nat → Bool} (h : L27.all f = true) {r : Nat} (hr : r < 27) : f r = true := List.all_eq_true.mp h r (by
  rcases (show r = 0 ∨ r = 1 ∨ r = 2 ∨ r = 3 ∨ r = 4 ∨ r = 5 ∨ r = 6 ∨ r = 7 ∨ r = 8 ∨ r = 9 ∨ r = 10 ∨ r = 11 ∨ r = 12 ∨ r = 13 ∨ r = 14 ∨ r = 15 ∨ r = 16 ∨ r = 17 ∨ r = 18 ∨ r = 19 ∨ r = 20 ∨ r = 21 ∨ r = 22 ∨ r = 23 ∨ r = 24 ∨ r = 25 ∨ r = 26 by omega) with rfl | rfl | rfl | rfl | rfl | rfl | rfl | rfl | rfl | rfl | rfl | rfl | rfl | rfl | rfl | rfl | rfl | rfl | rfl | rfl | rfl | rfl | rfl | rfl | rfl | rfl | rfl <;> decide)
theorem k0_all {r0 : Nat} (h : r0 < 27) : k0 r0 = true := by
  rcases (show r0 < 9 ∨ (9 ≤ r0 ∧ r0 < 18) ∨ 18 ≤ r0 by omega) with g | g | g
  · refine List.all_eq_true.mp k0_0 r0 ?_
    rcases (show r0 = 0 ∨ r0 = 1 ∨ r0 = 2 ∨ r0 = 3 ∨ r0 = 4 ∨ r0 = 5 ∨ r0 = 6 ∨ r0 = 7 ∨ r0 = 8 by omega) with rfl | rfl | rfl | rfl | rfl | rfl | rfl | rfl | rfl <;> decide
  · refine List.all_eq_true.mp k0_1 r0 ?_
    rcases (show r0 = 9 ∨ r0 = 10 ∨ r0 = 11 ∨ r0 = 12 ∨ r0 = 13 ∨ r0 = 14 ∨ r0 = 15 ∨ r0 = 16 ∨ r0 = 17 by omega) with rfl | rfl | rfl | rfl | rfl | rfl | rfl | rfl | rfl <;> decide
  · refine List.all_eq_true.mp k0_2 r0 ?_
    rcases (show r0 = 18 ∨ r0 = 19 ∨ r0 = 20 ∨ r0 = 21 ∨ r0 = 22 ∨ r0 = 23 ∨ r0 = 24 ∨ r0 = 25 ∨ r0 = 26 by omega) with rfl | rfl | rfl | rfl | rfl | rfl | rfl | rfl | rfl <;> decide
theorem UL_len : UL0.length = 100 ∧ UL1.length = 100 ∧ UL2.length = 100 ∧ UL3.length = 100 ∧ UL4.length = 79 := by decide +kernel
theorem getD_in {l : List En} {i : Nat} (h : i < l.length) : l.getD i uD ∈ l := by
  rw [List.getD_eq_getElem?_getD, List.getElem?_eq_getElem h]
  exact List.getElem_mem h
theorem uAt_in {i : Nat} (h : i < 479) : (i < 100 ∧ uAt i = UL0.getD i uD) ∨ (100 ≤ i ∧ i < 200 ∧ uAt i = UL1.getD (i - 100) uD) ∨ (200 ≤ i ∧ i < 300 ∧ uAt i = UL2.getD (i - 200) uD) ∨ (300 ≤ i ∧ i < 400 ∧ uAt i = UL3.getD (i - 300) uD) ∨ (400 ≤ i ∧ uAt i = UL4.getD (i - 400) uD) := by
  have bt : ∀ {a b : Nat}, a ≤ b → Nat.ble a b = true := fun h => Nat.ble_eq_true_of_le h
  have bf : ∀ {a b : Nat}, b < a → Nat.ble a b = false := fun h => by
    cases q : Nat.ble _ _ with
    | false => rfl
    | true => exact absurd (Nat.le_of_ble_eq_true q) (by omega)
  unfold uAt
  rcases (show i < 100 ∨ (100 ≤ i ∧ i < 200) ∨ (200 ≤ i ∧ i < 300) ∨ (300 ≤ i ∧ i < 400) ∨ 400 ≤ i by omega) with g | g | g | g | g
  · rw [bf (show i < 200 by omega), bf (show i < 100 by omega)]; exact Or.inl ⟨g, rfl⟩
  · rw [bf (show i < 200 by omega), bt (show 100 ≤ i by omega)]; exact Or.inr (Or.inl ⟨g.1, g.2, rfl⟩)
  · rw [bt (show 200 ≤ i by omega), bf (show i < 400 by omega), bf (show i < 300 by omega)]; exact Or.inr (Or.inr (Or.inl ⟨g.1, g.2, rfl⟩))
  · rw [bt (show 200 ≤ i by omega), bf (show i < 400 by omega), bt (show 300 ≤ i by omega)]; exact Or.inr (Or.inr (Or.inr (Or.inl ⟨g.1, g.2, rfl⟩)))
  · rw [bt (show 200 ≤ i by omega), bt (show 400 ≤ i by omega)]; exact Or.inr (Or.inr (Or.inr (Or.inr ⟨g, rfl⟩)))
theorem uAt_mem {i : Nat} (h : i < 479) : uAt i ∈ UL0 ∨ uAt i ∈ UL1 ∨ uAt i ∈ UL2 ∨ uAt i ∈ UL3 ∨ uAt i ∈ UL4 := by
  obtain ⟨h0, h1, h2, h3, h4⟩ := UL_len
  rcases uAt_in h with ⟨a, e⟩ | ⟨a, b, e⟩ | ⟨a, b, e⟩ | ⟨a, b, e⟩ | ⟨a, e⟩
  · exact Or.inl (e ▸ getD_in (by omega))
  · exact Or.inr (Or.inl (e ▸ getD_in (by omega)))
  · exact Or.inr (Or.inr (Or.inl (e ▸ getD_in (by omega))))
  · exact Or.inr (Or.inr (Or.inr (Or.inl (e ▸ getD_in (by omega)))))
  · exact Or.inr (Or.inr (Or.inr (Or.inr (e ▸ getD_in (by omega)))))
def kr (l : List En) : Bool := l.all fun e => Nat.ble e.1 26 && (Nat.ble e.2.1 26 && Nat.ble e.2.2.1 26)
theorem kr_t : kr UL0 = true ∧ kr UL1 = true ∧ kr UL2 = true ∧ kr UL3 = true ∧ kr UL4 = true := by decide +kernel
theorem u_rows {i : Nat} (h : i < 479) : (uAt i).1 < 27 ∧ (uAt i).2.1 < 27 ∧ (uAt i).2.2.1 < 27 := by
  obtain ⟨h0, h1, h2, h3, h4⟩ := kr_t
  have key : ∀ l, kr l = true → uAt i ∈ l → (uAt i).1 < 27 ∧ (uAt i).2.1 < 27 ∧ (uAt i).2.2.1 < 27 := fun l hl hm => by
    have q := List.all_eq_true.mp hl _ hm
    rw [and_t, and_t] at q
    have a := Nat.le_of_ble_eq_true q.1
    have b := Nat.le_of_ble_eq_true q.2.1
    have c := Nat.le_of_ble_eq_true q.2.2
    omega
  rcases uAt_mem h with g | g | g | g | g
  · exact key _ h0 g
  · exact key _ h1 g
  · exact key _ h2 g
  · exact key _ h3 g
  · exact key _ h4 g
theorem u_tab {i : Nat} (h : i < 479) {r : Nat} (hr : r < 27) : lk (uAt i).2.2.2.1 r = rimg r (uAt i).1 (uAt i).2.1 (uAt i).2.2.1 := by
  have key : ∀ l, k1 l = true → uAt i ∈ l → lk (uAt i).2.2.2.1 r = rimg r (uAt i).1 (uAt i).2.1 (uAt i).2.2.1 := fun l hl hm => Nat.eq_of_beq_eq_true (L27_all (List.all_eq_true.mp hl _ hm) hr)
  rcases uAt_mem h with g | g | g | g | g
  · exact key _ k1_0 g
  · exact key _ k1_1 g
  · exact key _ k1_2 g
  · exact key _ k1_3 g
  · exact key _ k1_4 g
theorem k2a_ok {v : En} : ∀ {l : List En} {j : Nat}, k2a v j l = true → ∀ t, t < l.length → lk (l.getD t uD).2.2.2.1 v.1 < 27 → lk (l.getD t uD).2.2.2.1 v.2.1 < 27 → lk (l.getD t uD).2.2.2.1 v.2.2.1 < 27 → ixC (cod (lk (l.getD t uD).2.2.2.1 v.1) (lk (l.getD t uD).2.2.2.1 v.2.1) (lk (l.getD t uD).2.2.2.1 v.2.2.1)) ≤ 510 → bitB v.2.2.2.2 (j + t) = true
  | [], _, _, t, ht, _, _, _, _ => absurd ht (Nat.not_lt_zero _)
  | u :: l, j, h, t, ht, h1, h2, h3, h4 => by
    unfold k2a at h
    rw [and_t] at h
    simp only [frc_eq] at h
    cases t with
    | zero =>
      have h1 : lk u.2.2.2.1 v.1 < 27 := h1
      have h2 : lk u.2.2.2.1 v.2.1 < 27 := h2
      have h3 : lk u.2.2.2.1 v.2.2.1 < 27 := h3
      have h4 : ixC (cod (lk u.2.2.2.1 v.1) (lk u.2.2.2.1 v.2.1) (lk u.2.2.2.1 v.2.2.1)) ≤ 510 := h4
      have q := h.1
      rw [Nat.ble_eq_true_of_le (show lk u.2.2.2.1 v.1 ≤ 26 by omega), Nat.ble_eq_true_of_le (show lk u.2.2.2.1 v.2.1 ≤ 26 by omega), Nat.ble_eq_true_of_le (show lk u.2.2.2.1 v.2.2.1 ≤ 26 by omega), Nat.ble_eq_true_of_le h4] at q
      exact q
    | succ t =>
      have := k2a_ok (l := l) h.2 t (by simpa using ht) h1 h2 h3 h4
      rw [show j + (t + 1) = j + 1 + t by omega]
      exact this
theorem u_go {v u : Nat} (hv : v < 479) (hu : u < 479) (h1 : lk (uAt u).2.2.2.1 (uAt v).1 < 27) (h2 : lk (uAt u).2.2.2.1 (uAt v).2.1 < 27) (h3 : lk (uAt u).2.2.2.1 (uAt v).2.2.1 < 27) (h4 : ixC (cod (lk (uAt u).2.2.2.1 (uAt v).1) (lk (uAt u).2.2.2.1 (uAt v).2.1) (lk (uAt u).2.2.2.1 (uAt v).2.2.1)) ≤ 510) : bitB (uS v) u = true := by
  obtain ⟨l0, l1, l2, l3, l4⟩ := UL_len
  have key : ∀ l, k2 l = true → uAt v ∈ l → bitB (uS v) u = true := fun l hl hm => by
    have q := List.all_eq_true.mp hl _ hm
    rw [and_t, and_t, and_t, and_t] at q
    obtain ⟨q0, q1, q2, q3, q4⟩ := q
    rcases uAt_in hu with ⟨a, e⟩ | ⟨a, b, e⟩ | ⟨a, b, e⟩ | ⟨a, b, e⟩ | ⟨a, e⟩
    · rw [e] at h1 h2 h3 h4
      have := k2a_ok q0 u (by omega) h1 h2 h3 h4
      rw [Nat.zero_add] at this
      exact this
    · rw [e] at h1 h2 h3 h4
      have := k2a_ok q1 (u - 100) (by omega) h1 h2 h3 h4
      rw [show 100 + (u - 100) = u by omega] at this
      exact this
    · rw [e] at h1 h2 h3 h4
      have := k2a_ok q2 (u - 200) (by omega) h1 h2 h3 h4
      rw [show 200 + (u - 200) = u by omega] at this
      exact this
    · rw [e] at h1 h2 h3 h4
      have := k2a_ok q3 (u - 300) (by omega) h1 h2 h3 h4
      rw [show 300 + (u - 300) = u by omega] at this
      exact this
    · rw [e] at h1 h2 h3 h4
      have := k2a_ok q4 (u - 400) (by omega) h1 h2 h3 h4
      rw [show 400 + (u - 400) = u by omega] at this
      exact this
  rcases uAt_mem hv with g | g | g | g | g
  · exact key _ k2_0 g
  · exact key _ k2_1 g
  · exact key _ k2_2 g
  · exact key _ k2_3 g
  · exact key _ k2_4 g
theorem uC_rw {i : Nat} (h : i < 479) : rw3 (uC i) 0 = (uAt i).1 ∧ rw3 (uC i) 1 = (uAt i).2.1 ∧ rw3 (uC i) 2 = (uAt i).2.2.1 := rw_cod (u_rows h).2.1 (u_rows h).2.2
theorem det_dI {n : Nat} (h : n < 19683) : detF (mdg (kN n)) = dI (rw3 n 0) (rw3 n 1) (rw3 n 2) := by
  have b0 := mdg_kN3 h 0 (by omega)
  have b1 := mdg_kN3 h 1 (by omega)
  have b2 := mdg_kN3 h 2 (by omega)
  simp only [Nat.mul_zero, Nat.zero_add, Nat.mul_one, Nat.reduceMul, Nat.reduceAdd] at b0 b1 b2
  unfold detF dI
  rw [b0.1, b0.2.1, b0.2.2, b1.1, b1.2.1, b1.2.2, b2.1, b2.2.1, b2.2.2]
/-- a closed set of rotations -/
def rotN (Q : Nat → Prop) : Prop := clN Q ∧ ∀ n, Q n → detF (mdg (kN n)) = 1
theorem pw_ok {Q : Nat → Prop} (h : clN Q) {b : Nat} (hb : Q b) : ∀ (k a : Nat), Q a → pw (rw3 b 0) (rw3 b 1) (rw3 b 2) k (rw3 a 0) (rw3 a 1) (rw3 a 2) = true
  | 0, _, _ => rfl
  | k + 1, a, ha => by
    obtain ⟨q, q0, q1, q2⟩ := h.mul ha hb
    have e := rw_cod (x := rimg (rw3 a 0) (rw3 b 0) (rw3 b 1) (rw3 b 2)) q1 q2
    have ih := pw_ok h hb k _ q
    unfold mulC at ih
    rw [e.1, e.2.1, e.2.2] at ih
    unfold pw
    simp only [frc_eq]
    rw [Nat.ble_eq_true_of_le (show _ ≤ 26 by omega), Nat.ble_eq_true_of_le (show _ ≤ 26 by omega), Nat.ble_eq_true_of_le (show _ ≤ 26 by omega), ih]
    rfl
theorem rot_in {Q : Nat → Prop} (h : rotN Q) {n : Nat} (hn : Q n) : n = 16484 ∨ (ixC n < 479 ∧ uC (ixC n) = n) := by
  have hl := h.1.1 n hn
  have q := L27_all (L27_all (k0_all (rw_lt hl 0)) (rw_lt hl 1)) (rw_lt hl 2)
  simp only [] at q
  rw [pw_ok h.1 hn 4 n hn, ← det_dI hl, h.2 n hn, cod_rw] at q
  simp only [frc_eq, decide_true, cond_true, Bool.or_eq_true, and_t] at q
  rcases q with q | ⟨q0, q1, q2, q3⟩
  · exact Or.inl (Nat.eq_of_beq_eq_true q)
  · refine Or.inr ⟨by have := Nat.le_of_ble_eq_true q0; omega, ?_⟩
    unfold uC
    rw [Nat.eq_of_beq_eq_true q1, Nat.eq_of_beq_eq_true q2, Nat.eq_of_beq_eq_true q3, cod_rw]
theorem ix_id : ixC 16484 = 510 := by decide +kernel
/-- a product's rows, by the table -/
theorem prod_tab {Q : Nat → Prop} (h : rotN Q) {w v : Nat} (hw : Q w) (hv : v < 479) (hq : Q (uC v)) : lk (uAt v).2.2.2.1 (rw3 w 0) < 27 ∧ lk (uAt v).2.2.2.1 (rw3 w 1) < 27 ∧ lk (uAt v).2.2.2.1 (rw3 w 2) < 27 ∧ Q (cod (lk (uAt v).2.2.2.1 (rw3 w 0)) (lk (uAt v).2.2.2.1 (rw3 w 1)) (lk (uAt v).2.2.2.1 (rw3 w 2))) := by
  have hl := h.1.1 w hw
  obtain ⟨q, q0, q1, q2⟩ := h.1.mul hw hq
  unfold mulC at q
  obtain ⟨e0, e1, e2⟩ := uC_rw hv
  rw [e0, e1, e2] at q q0 q1 q2
  rw [u_tab hv (rw_lt hl 0), u_tab hv (rw_lt hl 1), u_tab hv (rw_lt hl 2)]
  exact ⟨q0, q1, q2, q⟩
def Ri (Q : Nat → Prop) (i : Nat) : Prop := i < 479 ∧ Q (uC i)
theorem rot_S {Q : Nat → Prop} (h : rotN Q) {i j : Nat} (hi : Ri Q i) (hj : Ri Q j) : (uS i).testBit j = true := by
  obtain ⟨q0, q1, q2, q3⟩ := prod_tab h hi.2 hj.1 hj.2
  obtain ⟨e0, e1, e2⟩ := uC_rw hi.1
  rw [e0, e1, e2] at q3
  rw [e0] at q0
  rw [e1] at q1
  rw [e2] at q2
  rw [← bitB_eq]
  refine u_go hi.1 hj.1 q0 q1 q2 ?_
  rcases rot_in h q3 with g | g
  · rw [g, ix_id]; exact Nat.le_refl _
  · omega
theorem addV_ok {Q : Nat → Prop} (h : rotN Q) {v cand : Nat} (hv : Ri Q v) (hc : ∀ i, Ri Q i → cand.testBit i = true) {k : Nat → Bool} : ∀ {l : List Nat} {c2 : Nat}, addV (uAt v).2.2.2.1 cand k l c2 = true → (∀ w ∈ l, Q w) → (∀ i, Ri Q i → c2.testBit i = true) → ∃ c3, (∀ i, Ri Q i → c3.testBit i = true) ∧ k c3 = true
  | [], c2, ht, _, h2 => ⟨c2, h2, ht⟩
  | w :: l, c2, ht, hl, h2 => by
    have hw := hl w List.mem_cons_self
    obtain ⟨q0, q1, q2, q3⟩ := prod_tab h hw hv.1 hv.2
    have q0' : lk (uAt v).2.2.2.1 (w / 729) < 27 := q0
    have q1' : lk (uAt v).2.2.2.1 (w / 27 % 27) < 27 := q1
    have q2' : lk (uAt v).2.2.2.1 (w % 27) < 27 := q2
    have q3' : Q (cod (lk (uAt v).2.2.2.1 (w / 729)) (lk (uAt v).2.2.2.1 (w / 27 % 27)) (lk (uAt v).2.2.2.1 (w % 27))) := q3
    unfold addV at ht
    simp only [frc_eq] at ht
    rw [Nat.ble_eq_true_of_le (show lk (uAt v).2.2.2.1 (w / 729) ≤ 26 by omega), Nat.ble_eq_true_of_le (show lk (uAt v).2.2.2.1 (w / 27 % 27) ≤ 26 by omega), Nat.ble_eq_true_of_le (show lk (uAt v).2.2.2.1 (w % 27) ≤ 26 by omega)] at ht
    generalize cod (lk (uAt v).2.2.2.1 (w / 729)) (lk (uAt v).2.2.2.1 (w / 27 % 27)) (lk (uAt v).2.2.2.1 (w % 27)) = p at ht q3'
    simp only [Bool.and_self, cond_true] at ht
    have hl2 : ∀ w ∈ l, Q w := fun w hw => hl w (List.mem_cons_of_mem _ hw)
    rcases rot_in h q3' with g | ⟨g1, g2⟩
    · rw [g, ix_id] at ht
      exact addV_ok h hv hc (l := l) ht hl2 h2
    · have hR : Ri Q (ixC p) := ⟨g1, by rw [g2]; exact q3'⟩
      have n1 : Nat.beq (ixC p) 511 = false := by
        cases q : Nat.beq (ixC p) 511 with
        | false => rfl
        | true => have := Nat.eq_of_beq_eq_true q; omega
      have n2 : Nat.beq (ixC p) 510 = false := by
        cases q : Nat.beq (ixC p) 510 with
        | false => rfl
        | true => have := Nat.eq_of_beq_eq_true q; omega
      rw [n1, n2, bitB_eq, hc _ hR] at ht
      simp only [cond_true, cond_false] at ht
      refine addV_ok h hv hc (l := l) ht hl2 (fun i hi => ?_)
      show (c2 &&& uS (ixC p)).testBit i = true
      rw [Nat.testBit_and, h2 i hi, rot_S h hR hi]
      rfl
theorem srch_ok {Q : Nat → Prop} (h : rotN Q) : ∀ {f cand : Nat} {dec : List Nat} {dm : Nat}, srch f cand dec dm = true → (∀ i, Ri Q i → cand.testBit i = true) → (∀ w ∈ dec, Q w) → ∃ G ∈ GMs, ∀ i, Ri Q i → G.testBit i = true
  | 0, _, _, _, ht, _, _ => by simp [srch] at ht
  | f + 1, cand, dec, dm, ht, hc, hd => by
    unfold srch at ht
    simp only [frc_eq, Bool.or_eq_true, and_t] at ht
    rcases ht with ht | ⟨-, h1, h2⟩
    · obtain ⟨G, hG, e⟩ := List.any_eq_true.mp ht
      refine ⟨G, hG, fun i hi => ?_⟩
      have e : cand &&& G = cand := Nat.eq_of_beq_eq_true e
      have q := hc i hi
      rw [← e, Nat.testBit_and] at q
      exact (and_t.mp q).2
    · generalize Nat.log2 _ = v at h1 h2
      by_cases hv : Ri Q v
      · obtain ⟨c3, q1, q2⟩ := addV_ok h hv hc h1 hd (fun i hi => by
          show (cand &&& uS v).testBit i = true
          rw [Nat.testBit_and, hc i hi, rot_S h hv hi]
          rfl)
        exact srch_ok h (f := f) q2 q1 (fun w hw => by
          rcases List.mem_cons.mp hw with rfl | g
          · exact hv.2
          · exact hd w g)
      · refine srch_ok h (f := f) h2 (fun i hi => ?_) hd
        have hne : i ≠ v := fun e => hv (e ▸ hi)
        show (cand ^^^ (1 <<< v)).testBit i = true
        rw [Nat.testBit_xor, hc i hi, Nat.one_shiftLeft, Nat.testBit_two_pow_of_ne (Ne.symm hne)]
        rfl
theorem rot_G {Q : Nat → Prop} (h : rotN Q) : ∃ G ∈ GMs, ∀ i, Ri Q i → G.testBit i = true := by
  refine srch_ok h srch_t (fun i hi => ?_) (fun w hw => absurd hw List.not_mem_nil)
  show ((1 <<< 479) - 1).testBit i = true
  rw [Nat.one_shiftLeft, Nat.testBit_two_pow_sub_one]
  exact decide_eq_true hi.1
