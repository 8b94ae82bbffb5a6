/-! CLASS: what the reckoning says. -/
set_option maxRecDepth 100000
theorem L27_all {f : Nat → Bool} (h : L27.all f = true) {r : Nat} (hr : r < 27) : f r = true := List.all_eq_true.mp h r (by
  rcases (show r = 0 ∨ r = 1 ∨ r = 2 ∨ r = 3 ∨ r = 4 ∨ r = 5 ∨ r = 6 ∨ r = 7 ∨ r = 8 ∨ r = 9 ∨ r = 10 ∨ r = 11 ∨ r = 12 ∨ r = 13 ∨ r = 14 ∨ r = 15 ∨ r = 16 ∨ r = 17 ∨ r = 18 ∨ r = 19 ∨ r = 20 ∨ r = 21 ∨ r = 22 ∨ r = 23 ∨ r = 24 ∨ r = 25 ∨ r = 26 by omega) with rfl | rfl | rfl | rfl | rfl | rfl | rfl | rfl | rfl | rfl | rfl | rfl | rfl | rfl | rfl | rfl | rfl | rfl | rfl | rfl | rfl | rfl | rfl | rfl | rfl | rfl | rfl <;> decide)
theorem k0_all {r0 : Nat} (h : r0 < 27) : k0 r0 = true := by
  rcases (show r0 < 9 ∨ (9 ≤ r0 ∧ r0 < 18) ∨ 18 ≤ r0 by omega) with g | g | g
  · refine List.all_eq_true.mp k0_0 r0 ?_
    rcases (show r0 = 0 ∨ r0 = 1 ∨ r0 = 2 ∨ r0 = 3 ∨ r0 = 4 ∨ r0 = 5 ∨ r0 = 6 ∨ r0 = 7 ∨ r0 = 8 by omega) with rfl | rfl | rfl | rfl | rfl | rfl | rfl | rfl | rfl <;> decide
  · refine List.all_eq_true.mp k0_1 r0 ?_
    rcases (show r0 = 9 ∨ r0 = 10 ∨ r0 = 11 ∨ r0 = 12 ∨ r0 = 13 ∨ r0 = 14 ∨ r0 = 15 ∨ r0 = 16 ∨ r0 = 17 by omega) with rfl | rfl | rfl | rfl | rfl | rfl | rfl | rfl | rfl <;> decide
  · refine List.all_eq_true.mp k0_2 r0 ?_
    rcases (show r0 = 18 ∨ r0 = 19 ∨ r0 = 20 ∨ r0 = 21 ∨ r0 = 22 ∨ r0 = 23 ∨ r0 = 24 ∨ r0 = 25 ∨ r0 = 26 by omega) with rfl | rfl | rfl | rfl | rfl | rfl | rfl | rfl | rfl <;> decide
theorem UL_len : UL0.length = 100 ∧ UL1.length = 100 ∧ UL2.length = 100 ∧ UL3.length = 100 ∧ UL4.length = 79 := by decide +kernel
theorem getD_in {l : List En} {i : Nat} (h : i < l.length) : l.getD i uD ∈ l := by
  rw [List.getD_eq_getElem?_getD, List.getElem?_eq_getElem h]
  exact List.getElem_mem h
theorem uAt_in {i : Nat} (h : i < 479) : (i < 100 ∧ uAt i = UL0.getD i uD) ∨ (100 ≤ i ∧ i < 200 ∧ uAt i = UL1.getD (i - 100) uD) ∨ (200 ≤ i ∧ i < 300 ∧ uAt i = UL2.getD (i - 200) uD) ∨ (300 ≤ i ∧ i < 400 ∧ uAt i = UL3.getD (i - 300) uD) ∨ (400 ≤ i ∧ uAt i = UL4.getD (i - 400) uD) := by
  have bt : ∀ {a b : Nat}, a ≤ b → Nat.ble a b = true := fun h => Nat.ble_eq_true_of_le h
  have bf : ∀ {a b : Nat}, b < a → Nat.ble a b = false := fun h => by
    cases q : Nat.ble _ _ with
    | false => rfl
    | true => exact absurd (Nat.le_of_ble_eq_true q) (by omega)
  unfold uAt
  rcases (show i < 100 ∨ (100 ≤ i ∧ i < 200) ∨ (200 ≤ i ∧ i < 300) ∨ (300 ≤ i ∧ i < 400) ∨ 400 ≤ i by omega) with g | g | g | g | g
  · rw [bf (show i < 200 by omega), bf (show i < 100 by omega)]; exact Or.inl ⟨g, rfl⟩
  · rw [bf (show i < 200 by omega), bt (show 100 ≤ i by omega)]; exact Or.inr (Or.inl ⟨g.1, g.2, rfl⟩)
  · rw [bt (show 200 ≤ i by omega), bf (show i < 400 by omega), bf (show i < 300 by omega)]; exact Or.inr (Or.inr (Or.inl ⟨g.1, g.2, rfl⟩))
  · rw [bt (show 200 ≤ i by omega), bf (show i < 400 by omega), bt (show 300 ≤ i by omega)]; exact Or.inr (Or.inr (Or.inr (Or.inl ⟨g.1, g.2, rfl⟩)))
  · rw [bt (show 200 ≤ i by omega), bt (show 400 ≤ i by omega)]; exact Or.inr (Or.inr (Or.inr (Or.inr ⟨g, rfl⟩)))
theorem uAt_mem {i : Nat} (h : i < 479) : uAt i ∈ UL0 ∨ uAt i ∈ UL1 ∨ uAt i ∈ UL2 ∨ uAt i ∈ UL3 ∨ uAt i ∈ UL4 := by
  obtain ⟨h0, h1, h2, h3, h4⟩ := UL_len
  rcases uAt_in h with ⟨a, e⟩ | ⟨a, b, e⟩ | ⟨a, b, e⟩ | ⟨a, b, e⟩ | ⟨a, e⟩
  · exact Or.inl (e ▸ getD_in (by omega))
  · exact Or.inr (Or.inl (e ▸ getD_in (by omega)))
  · exact Or.inr (Or.inr (Or.inl (e ▸ getD_in (by omega))))
  · exact Or.inr (Or.inr (Or.inr (Or.inl (e ▸ getD_in (by omega)))))
  · exact Or.inr (Or.inr (Or.inr (Or.inr (e ▸ getD_in (by omega)))))
def kr (l : List En) : Bool := l.all fun e => Nat.ble e.1 26 && (Nat.ble e.2.1 26 && Nat.ble e.2.2.1 26)
theorem kr_t : kr UL0 = true ∧ kr UL1 = true ∧ kr UL2 = true ∧ kr UL3 = true ∧ kr UL4 = true := by decide +kernel
theorem u_rows {i : Nat} (h : i < 479) : (uAt i).1 < 27 ∧ (uAt i).2.1 < 27 ∧ (uAt i).2.2.1 < 27 := by
  obtain ⟨h0, h1, h2, h3, h4⟩ := kr_t
  have key : ∀ l, kr l = true → uAt i ∈ l → (uAt i).1 < 27 ∧ (uAt i).2.1 < 27 ∧ (uAt i).2.2.1 < 27 := fun l hl hm => by
    have q := List.all_eq_true.mp hl _ hm
    rw [and_t, and_t] at q
    have a := Nat.le_of_ble_eq_true q.1
    have b := Nat.le_of_ble_eq_true q.2.1
    have c := Nat.le_of_ble_eq_true q.2.2
    omega
  rcases uAt_mem h with g | g | g | g | g
  · exact key _ h0 g
  · exact key _ h1 g
  · exact key _ h2 g
  · exact key _ h3 g
  · exact key _ h4 g
theorem u_tab {i : Nat} (h : i < 479) {r : Nat} (hr : r < 27) : lk (uAt i).2.2.2.1 r = rimg r (uAt i).1 (uAt i).2.1 (uAt i).2.2.1 := by
  have key : ∀ l, k1 l = true → uAt i ∈ l → lk (uAt i).2.2.2.1 r = rimg r (uAt i).1 (uAt i).2.1 (uAt i).2.2.1 := fun l hl hm => Nat.eq_of_beq_eq_true (L27_all (List.all_eq_true.mp hl _ hm) hr)
  rcases uAt_mem h with g | g | g | g | g
  · exact key _ k1_0 g
  · exact key _ k1_1 g
  · exact key _ k1_2 g
  · exact key _ k1_3 g
  · exact key _ k1_4 g
theorem k2a_ok {v : En} : ∀ {l : List En} {j : Nat}, k2a v j l = true → ∀ t, t < l.length → lk (l.getD t uD).2.2.2.1 v.1 < 27 → lk (l.getD t uD).2.2.2.1 v.2.1 < 27 → lk (l.getD t uD).2.2.2.1 v.2.2.1 < 27 → ixC (cod (lk (l.getD t uD).2.2.2.1 v.1) (lk (l.getD t uD).2.2.2.1 v.2.1) (lk (l.getD t uD).2.2.2.1 v.2.2.1)) ≤ 510 → bitB v.2.2.2.2 (j + t) = true
  | [], _, _, t, ht, _, _, _, _ => absurd ht (Nat.not_lt_zero _)
  | u :: l, j, h, t, ht, h1, h2, h3, h4 => by
    unfold k2a at h
    rw [and_t] at h
    simp only [frc_eq] at h
    cases t with
    | zero =>
      have h1 : lk u.2.2.2.1 v.1 < 27 := h1
      have h2 : lk u.2.2.2.1 v.2.1 < 27 := h2
      have h3 : lk u.2.2.2.1 v.2.2.1 < 27 := h3
      have h4 : ixC (cod (lk u.2.2.2.1 v.1) (lk u.2.2.2.1 v.2.1) (lk u.2.2.2.1 v.2.2.1)) ≤ 510 := h4
      have q := h.1
      rw [Nat.ble_eq_true_of_le (show lk u.2.2.2.1 v.1 ≤ 26 by omega), Nat.ble_eq_true_of_le (show lk u.2.2.2.1 v.2.1 ≤ 26 by omega), Nat.ble_eq_true_of_le (show lk u.2.2.2.1 v.2.2.1 ≤ 26 by omega), Nat.ble_eq_true_of_le h4] at q
      exact q
    | succ t =>
      have := k2a_ok (l := l) h.2 t (by simpa using ht) h1 h2 h3 h4
      rw [show j + (t + 1) = j + 1 + t by omega]
      exact this
theorem u_go {v u : Nat} (hv : v < 479) (hu : u < 479) (h1 : lk (uAt u).2.2.2.1 (uAt v).1 < 27) (h2 : lk (uAt u).2.2.2.1 (uAt v).2.1 < 27) (h3 : lk (uAt u).2.2.2.1 (uAt v).2.2.1 < 27) (h4 : ixC (cod (lk (uAt u).2.2.2.1 (uAt v).1) (lk (uAt u).2.2.2.1 (uAt v).2.1) (lk (uAt u).2.2.2.1 (uAt v).2.2.1)) ≤ 510) : bitB (uS v) u = true := by
  obtain ⟨l0, l1, l2, l3, l4⟩ := UL_len
  have key : ∀ l, k2 l = true → uAt v ∈ l → bitB (uS v) u = true := fun l hl hm => by
    have q := List.all_eq_true.mp hl _ hm
    rw [and_t, and_t, and_t, and_t] at q
    obtain ⟨q0, q1, q2, q3, q4⟩ := q
    rcases uAt_in hu with ⟨a, e⟩ | ⟨a, b, e⟩ | ⟨a, b, e⟩ | ⟨a, b, e⟩ | ⟨a, e⟩
    · rw [e] at h1 h2 h3 h4
      have := k2a_ok q0 u (by omega) h1 h2 h3 h4
      rw [Nat.zero_add] at this
      exact this
    · rw [e] at h1 h2 h3 h4
      have := k2a_ok q1 (u - 100) (by omega) h1 h2 h3 h4
      rw [show 100 + (u - 100) = u by omega] at this
      exact this
    · rw [e] at h1 h2 h3 h4
      have := k2a_ok q2 (u - 200) (by omega) h1 h2 h3 h4
      rw [show 200 + (u - 200) = u by omega] at this
      exact this
    · rw [e] at h1 h2 h3 h4
      have := k2a_ok q3 (u - 300) (by omega) h1 h2 h3 h4
      rw [show 300 + (u - 300) = u by omega] at this
      exact this
    · rw [e] at h1 h2 h3 h4
      have := k2a_ok q4 (u - 400) (by omega) h1 h2 h3 h4
      rw [show 400 + (u - 400) = u by omega] at this
      exact this
  rcases uAt_mem hv with g | g | g | g | g
  · exact key _ k2_0 g
  · exact key _ k2_1 g
  · exact key _ k2_2 g
  · exact key _ k2_3 g
  · exact key _ k2_4 g
theorem uC_rw {i : Nat} (h : i < 479) : rw3 (uC i) 0 = (uAt i).1 ∧ rw3 (uC i) 1 = (uAt i).2.1 ∧ rw3 (uC i) 2 = (uAt i).2.2.1 := rw_cod (u_rows h).2.1 (u_rows h).2.2
theorem det_dI {n : Nat} (h : n < 19683) : detF (mdg (kN n)) = dI (rw3 n 0) (rw3 n 1) (rw3 n 2) := by
  have b0 := mdg_kN3 h 0 (by omega)
  have b1 := mdg_kN3 h 1 (by omega)
  have b2 := mdg_kN3 h 2 (by omega)
  simp only [Nat.mul_zero, Nat.zero_add, Nat.mul_one, Nat.reduceMul, Nat.reduceAdd] at b0 b1 b2
  unfold detF dI
  rw [b0.1, b0.2.1, b0.2.2, b1.1, b1.2.1, b1.2.2, b2.1, b2.2.1, b2.2.2]
/-- a closed set of rotations -/
def rotN (Q : Nat → Prop) : Prop := clN Q ∧ ∀ n, Q n → detF (mdg (kN n)) = 1
theorem pw_ok {Q : Nat → Prop} (h : clN Q) {b : Nat} (hb : Q b) : ∀ (k a : Nat), Q a → pw (rw3 b 0) (rw3 b 1) (rw3 b 2) k (rw3 a 0) (rw3 a 1) (rw3 a 2) = true
  | 0, _, _ => rfl
  | k + 1, a, ha => by
    obtain ⟨q, q0, q1, q2⟩ := h.mul ha hb
    have e := rw_cod (x := rimg (rw3 a 0) (rw3 b 0) (rw3 b 1) (rw3 b 2)) q1 q2
    have ih := pw_ok h hb k _ q
    unfold mulC at ih
    rw [e.1, e.2.1, e.2.2] at ih
    unfold pw
    simp only [frc_eq]
    rw [Nat.ble_eq_true_of_le (show _ ≤ 26 by omega), Nat.ble_eq_true_of_le (show _ ≤ 26 by omega), Nat.ble_eq_true_of_le (show _ ≤ 26 by omega), ih]
    rfl
theorem rot_in {Q : Nat → Prop} (h : rotN Q) {n : Nat} (hn : Q n) : n = 16484 ∨ (ixC n < 479 ∧ uC (ixC n) = n) := by
  have hl := h.1.1 n hn
  have q := L27_all (L27_all (k0_all (rw_lt hl 0)) (rw_lt hl 1)) (rw_lt hl 2)
  rw [pw_ok h.1 hn 4 n hn, ← det_dI hl, h.2 n hn, cod_rw] at q
  simp only [frc_eq, decide_true, cond_true, Bool.or_eq_true, and_t] at q
  rcases q with q | ⟨q0, q1, q2, q3⟩
  · exact Or.inl (Nat.eq_of_beq_eq_true q)
  · refine Or.inr ⟨by have := Nat.le_of_ble_eq_true q0; omega, ?_⟩
    unfold uC
    rw [Nat.eq_of_beq_eq_true q1, Nat.eq_of_beq_eq_true q2, Nat.eq_of_beq_eq_true q3, cod_rw]
theorem ix_id : ixC 16484 = 510 := by decide +kernel
/-- a product's rows, by the table -/
theorem prod_tab {Q : Nat → Prop} (h : rotN Q) {w v : Nat} (hw : Q w) (hv : v < 479) (hq : Q (uC v)) : lk (uAt v).2.2.2.1 (rw3 w 0) < 27 ∧ lk (uAt v).2.2.2.1 (rw3 w 1) < 27 ∧ lk (uAt v).2.2.2.1 (rw3 w 2) < 27 ∧ Q (cod (lk (uAt v).2.2.2.1 (rw3 w 0)) (lk (uAt v).2.2.2.1 (rw3 w 1)) (lk (uAt v).2.2.2.1 (rw3 w 2))) := by
  have hl := h.1.1 w hw
  obtain ⟨q, q0, q1, q2⟩ := h.1.mul hw hq
  unfold mulC at q
  obtain ⟨e0, e1, e2⟩ := uC_rw hv
  rw [e0, e1, e2] at q q0 q1 q2
  rw [u_tab hv (rw_lt hl 0), u_tab hv (rw_lt hl 1), u_tab hv (rw_lt hl 2)]
  exact ⟨q0, q1, q2, q⟩
def Ri (Q : Nat → Prop) (i : Nat) : Prop := i < 479 ∧ Q (uC i)
theorem rot_S {Q : Nat → Prop} (h : rotN Q) {i j : Nat} (hi : Ri Q i) (hj : Ri Q j) : (uS i).testBit j = true := by
  obtain ⟨q0, q1, q2, q3⟩ := prod_tab h hi.2 hj.1 hj.2
  obtain ⟨e0, e1, e2⟩ := uC_rw hi.1
  rw [e0, e1, e2] at q3
  rw [e0] at q0
  rw [e1] at q1
  rw [e2] at q2
  rw [← bitB_eq]
  refine u_go hi.1 hj.1 q0 q1 q2 ?_
  rcases rot_in h q3 with g | g
  · rw [g, ix_id]; exact Nat.le_refl _
  · omega
theorem pck_ok : ∀ {l : List En} {j : Nat}, pck j l = true → ∀ t, t < l.length → pT (j + t) = (l.getD t uD).2.2.2.1 ∧ pS (j + t) = ((l.getD t uD).2.2.2.2 <<< 64) ||| lo64 ∧ pC (j + t) = cod (l.getD t uD).1 (l.getD t uD).2.1 (l.getD t uD).2.2.1 ∧ ixT (cod (l.getD t uD).1 (l.getD t uD).2.1 (l.getD t uD).2.2.1) = j + t
  | [], _, _, t, ht => absurd ht (Nat.not_lt_zero _)
  | u :: l, j, h, t, ht => by
    unfold pck at h
    rw [and_t, and_t, and_t, and_t, frc_eq] at h
    cases t with
    | zero => exact ⟨Nat.eq_of_beq_eq_true h.1.1, Nat.eq_of_beq_eq_true h.1.2.1, Nat.eq_of_beq_eq_true h.1.2.2.1, Nat.eq_of_beq_eq_true h.1.2.2.2⟩
    | succ t =>
      have := pck_ok (l := l) h.2 t (by simpa using ht)
      rw [show j + (t + 1) = j + 1 + t by omega]
      exact this
theorem p_ok {i : Nat} (h : i < 479) : pT i = (uAt i).2.2.2.1 ∧ pS i = (uS i <<< 64) ||| lo64 ∧ pC i = uC i ∧ ixT (uC i) = i := by
  obtain ⟨l0, l1, l2, l3, l4⟩ := UL_len
  obtain ⟨p0, p1, p2, p3, p4⟩ := pck_t
  unfold uS uC
  rcases uAt_in h with ⟨a, e⟩ | ⟨a, b, e⟩ | ⟨a, b, e⟩ | ⟨a, b, e⟩ | ⟨a, e⟩ <;> rw [e]
  · have := pck_ok p0 i (by omega)
    rw [Nat.zero_add] at this
    exact this
  · have := pck_ok p1 (i - 100) (by omega)
    rw [show 100 + (i - 100) = i by omega] at this
    exact this
  · have := pck_ok p2 (i - 200) (by omega)
    rw [show 200 + (i - 200) = i by omega] at this
    exact this
  · have := pck_ok p3 (i - 300) (by omega)
    rw [show 300 + (i - 300) = i by omega] at this
    exact this
  · have := pck_ok p4 (i - 400) (by omega)
    rw [show 400 + (i - 400) = i by omega] at this
    exact this
theorem lo_bit (i : Nat) : lo64.testBit (64 + i) = false := Nat.testBit_lt_two_pow (Nat.lt_of_lt_of_le (show lo64 < 2 ^ 64 by decide) (Nat.pow_le_pow_right (by decide) (by omega)))
theorem sl_bit (v i : Nat) : (sl v).testBit (64 + i) = false := Nat.testBit_lt_two_pow (Nat.lt_of_lt_of_le (show sl v < 2 ^ 64 from Nat.mod_lt _ (by decide)) (Nat.pow_le_pow_right (by decide) (by omega)))
theorem up64 (m i : Nat) : ((m <<< 64) ||| lo64).testBit (64 + i) = m.testBit i := by
  rw [Nat.testBit_or, lo_bit, Bool.or_false, Nat.testBit_shiftLeft, decide_eq_true (show 64 + i ≥ 64 by omega), Nat.add_sub_cancel_left]
  rfl
/-- the set of those that may still be: all but the ones that are taken already -/
def mayB (Q : Nat → Prop) (cand : Nat) (dec : List Nat) : Prop := ∀ i, Ri Q i → cand.testBit (64 + i) = true ∨ uC i ∈ dec
theorem may_S {Q : Nat → Prop} (h : rotN Q) {c : Nat} {dec : List Nat} (hc : mayB Q c dec) {j : Nat} (hj : Ri Q j) (s : Nat) : mayB Q (Nat.xor (Nat.land c (pS j)) (sl s)) dec := fun i hi => by
  rcases hc i hi with q | q
  · left
    show ((c &&& pS j) ^^^ sl s).testBit (64 + i) = true
    rw [Nat.testBit_xor, sl_bit, Nat.testBit_and, q, (p_ok hj.1).2.1, up64, rot_S h hj hi]
    rfl
  · exact Or.inr q
theorem addV_ok {Q : Nat → Prop} (h : rotN Q) {v cand : Nat} {dec : List Nat} (hv : Ri Q v) (hc : mayB Q cand dec) {k : Nat → Bool} : ∀ {l : List Nat} {c2 : Nat}, addV (pT v) cand dec k l c2 = true → (∀ w ∈ l, Q w) → mayB Q c2 dec → ∃ c3, mayB Q c3 dec ∧ k c3 = true
  | [], c2, ht, _, h2 => ⟨c2, h2, ht⟩
  | w :: l, c2, ht, hl, h2 => by
    have hw := hl w List.mem_cons_self
    rw [(p_ok hv.1).1] at ht
    obtain ⟨q0, q1, q2, q3⟩ := prod_tab h hw hv.1 hv.2
    have q0' : lk (uAt v).2.2.2.1 (w / 729) < 27 := q0
    have q1' : lk (uAt v).2.2.2.1 (w / 27 % 27) < 27 := q1
    have q2' : lk (uAt v).2.2.2.1 (w % 27) < 27 := q2
    have q3' : Q (cod (lk (uAt v).2.2.2.1 (w / 729)) (lk (uAt v).2.2.2.1 (w / 27 % 27)) (lk (uAt v).2.2.2.1 (w % 27))) := q3
    unfold addV at ht
    simp only [frc_eq] at ht
    rw [Nat.ble_eq_true_of_le (show lk (uAt v).2.2.2.1 (w / 729) ≤ 26 by omega), Nat.ble_eq_true_of_le (show lk (uAt v).2.2.2.1 (w / 27 % 27) ≤ 26 by omega), Nat.ble_eq_true_of_le (show lk (uAt v).2.2.2.1 (w % 27) ≤ 26 by omega)] at ht
    generalize cod (lk (uAt v).2.2.2.1 (w / 729)) (lk (uAt v).2.2.2.1 (w / 27 % 27)) (lk (uAt v).2.2.2.1 (w % 27)) = p at ht q3'
    simp only [Bool.and_self, cond_true] at ht
    rw [← (p_ok hv.1).1] at ht
    have hl2 : ∀ w ∈ l, Q w := fun w hw => hl w (List.mem_cons_of_mem _ hw)
    rcases rot_in h q3' with g | ⟨g1, g2⟩
    · rw [g, ixT_id] at ht
      exact addV_ok h hv hc (l := l) ht hl2 h2
    · have hR : Ri Q (ixC p) := ⟨g1, by rw [g2]; exact q3'⟩
      have hix : ixT p = ixC p := by
        have := (p_ok g1).2.2.2
        rw [g2] at this
        exact this
      rw [hix] at ht
      have n1 : Nat.beq (ixC p) 511 = false := by
        cases q : Nat.beq (ixC p) 511 with
        | false => rfl
        | true => have := Nat.eq_of_beq_eq_true q; omega
      have n2 : Nat.beq (ixC p) 510 = false := by
        cases q : Nat.beq (ixC p) 510 with
        | false => rfl
        | true => have := Nat.eq_of_beq_eq_true q; omega
      have n3 : (bitB cand (64 + ixC p) || dec.any (fun d => Nat.beq d p)) = true := by
        rw [Bool.or_eq_true, bitB_eq]
        rcases hc _ hR with q | q
        · exact Or.inl q
        · rw [g2] at q
          exact Or.inr (List.any_eq_true.mpr ⟨p, q, Nat.beq_refl p⟩)
      rw [n1, n2, n3] at ht
      simp only [cond_true, cond_false] at ht
      exact addV_ok h hv hc (l := l) ht hl2 (may_S h h2 hR _)
theorem fltK_ok {v : Nat} {k : List Nat → Bool} : ∀ {gl acc : List Nat}, fltK v k gl acc = true → ∃ g2, k g2 = true ∧ ∀ G ∈ g2, G ∈ acc ∨ (G ∈ gl ∧ G.testBit (64 + v) = true)
  | [], acc, h => ⟨acc, h, fun G hG => Or.inl hG⟩
  | G :: l, acc, h => by
    unfold fltK at h
    cases q : bitB G (64 + v) with
    | true =>
      rw [q] at h
      obtain ⟨g2, h1, h2⟩ := fltK_ok (gl := l) h
      refine ⟨g2, h1, fun X hX => ?_⟩
      rcases h2 X hX with a | ⟨a, b⟩
      · rcases List.mem_cons.mp a with rfl | a
        · rw [bitB_eq] at q
          exact Or.inr ⟨List.mem_cons_self, q⟩
        · exact Or.inl a
      · exact Or.inr ⟨List.mem_cons_of_mem _ a, b⟩
    | false =>
      rw [q] at h
      obtain ⟨g2, h1, h2⟩ := fltK_ok (gl := l) h
      refine ⟨g2, h1, fun X hX => ?_⟩
      rcases h2 X hX with a | ⟨a, b⟩
      · exact Or.inl a
      · exact Or.inr ⟨List.mem_cons_of_mem _ a, b⟩
/-- the 39 that are left have all that are taken -/
def glOK (dec gl : List Nat) : Prop := ∀ G ∈ gl, G ∈ GMx ∧ ∀ i, i < 479 → uC i ∈ dec → G.testBit (64 + i) = true
theorem uC_inj {i j : Nat} (hi : i < 479) (hj : j < 479) (e : uC i = uC j) : i = j := by
  rw [← (p_ok hi).2.2.2, e, (p_ok hj).2.2.2]
theorem in_ok {Q : Nat → Prop} (h : rotN Q) {v cand c1 : Nat} {dec gl : List Nat} {k : Nat → List Nat → Bool} (hv : Ri Q v) (hc : mayB Q cand dec) (h1 : mayB Q c1 (uC v :: dec)) (hd : ∀ w ∈ dec, Q w) (hg : glOK dec gl) (ht : addV (pT v) cand (uC v :: dec) (fun c2 => fltK v (fun gl' => k c2 gl') gl []) (uC v :: dec) (Nat.xor (Nat.land c1 (pS v)) (sl v)) = true) : ∃ c2 gl', mayB Q c2 (uC v :: dec) ∧ glOK (uC v :: dec) gl' ∧ k c2 gl' = true := by
  have hc' : mayB Q cand (uC v :: dec) := fun i hi => (hc i hi).elim Or.inl (fun q => Or.inr (List.mem_cons_of_mem _ q))
  obtain ⟨c2, q1, q2⟩ := addV_ok h hv hc' ht (fun w hw => by
    rcases List.mem_cons.mp hw with rfl | g
    · exact hv.2
    · exact hd w g) (may_S h h1 hv _)
  obtain ⟨g2, r1, r2⟩ := fltK_ok q2
  refine ⟨c2, g2, q1, fun G hG => ?_, r1⟩
  rcases r2 G hG with a | ⟨a, b⟩
  · exact absurd a List.not_mem_nil
  · refine ⟨(hg G a).1, fun i hi hm => ?_⟩
    rcases List.mem_cons.mp hm with e | e
    · rw [uC_inj hi hv.1 e]; exact b
    · exact (hg G a).2 i hi e
theorem srch_ok {Q : Nat → Prop} (h : rotN Q) : ∀ {f cand : Nat} {dec gl : List Nat}, srch f cand dec gl = true → mayB Q cand dec → (∀ w ∈ dec, Q w) → glOK dec gl → ∃ G ∈ GMx, ∀ i, Ri Q i → G.testBit (64 + i) = true
  | 0, _, _, _, ht, _, _, _ => by simp [srch] at ht
  | f + 1, cand, dec, gl, ht, hc, hd, hg => by
    unfold srch at ht
    simp only [frc_eq, Bool.or_eq_true, and_t] at ht
    rcases ht with ht | ⟨-, h1, h2⟩
    · obtain ⟨G, hG, e⟩ := List.any_eq_true.mp ht
      refine ⟨G, (hg G hG).1, fun i hi => ?_⟩
      rcases hc i hi with q | q
      · have e : cand &&& G = cand := Nat.eq_of_beq_eq_true e
        rw [← e, Nat.testBit_and] at q
        exact (and_t.mp q).2
      · exact (hg G hG).2 i hi.1 q
    · generalize Nat.log2 cand - 64 = v at h1 h2
      have hne : ∀ i, i ≠ v → (Nat.xor cand (Nat.lor (Nat.shiftLeft 1 (64 + v)) (sl v))).testBit (64 + i) = cand.testBit (64 + i) := fun i q => by
        show (cand ^^^ ((1 <<< (64 + v)) ||| sl v)).testBit (64 + i) = _
        rw [Nat.testBit_xor, Nat.testBit_or, sl_bit, Nat.one_shiftLeft, Nat.testBit_two_pow_of_ne (by omega)]
        simp
      by_cases hv : Ri Q v
      · rw [(p_ok hv.1).2.2.1] at h1
        obtain ⟨c2, gl', q1, q2, q3⟩ := in_ok h (k := fun c2 gl' => srch f c2 (uC v :: dec) gl') hv hc (fun i hi => by
          by_cases e : i = v
          · rw [e]; exact Or.inr List.mem_cons_self
          · rw [hne i e]
            exact (hc i hi).elim Or.inl (fun q => Or.inr (List.mem_cons_of_mem _ q))) hd hg h1
        exact srch_ok h (f := f) q3 q1 (fun w hw => by
          rcases List.mem_cons.mp hw with rfl | g
          · exact hv.2
          · exact hd w g) q2
      · refine srch_ok h (f := f) h2 (fun i hi => ?_) hd hg
        rw [hne i (fun e => hv (e ▸ hi))]
        exact hc i hi
theorem topR_ok : ∀ {n v : Nat}, topR n v = true → ∀ i, v ≤ i → i < v + n → top i = true
  | 0, v, _, i, h1, h2 => by omega
  | n + 1, v, h, i, h1, h2 => by
    unfold topR at h
    rw [and_t, frc_eq] at h
    rcases Nat.lt_or_ge v i with g | g
    · exact topR_ok h.2 i g (by omega)
    · rw [show i = v by omega]; exact h.1
theorem top_all {v : Nat} (h : v < 479) : top v = true := by
  rcases (show (0 ≤ v ∧ v < 81) ∨ (81 ≤ v ∧ v < 170) ∨ (170 ≤ v ∧ v < 240) ∨ (240 ≤ v ∧ v < 290) ∨ (290 ≤ v ∧ v < 341) ∨ (341 ≤ v ∧ v < 380) ∨ (380 ≤ v ∧ v < 410) ∨ (410 ≤ v ∧ v < 435) ∨ (435 ≤ v ∧ v < 455) ∨ (455 ≤ v ∧ v < 467) ∨ (467 ≤ v ∧ v < 479) by omega) with g | g | g | g | g | g | g | g | g | g | g
  · exact topR_ok top_0 v g.1 (by omega)
  · exact topR_ok top_1 v g.1 (by omega)
  · exact topR_ok top_2 v g.1 (by omega)
  · exact topR_ok top_3 v g.1 (by omega)
  · exact topR_ok top_4 v g.1 (by omega)
  · exact topR_ok top_5 v g.1 (by omega)
  · exact topR_ok top_6 v g.1 (by omega)
  · exact topR_ok top_7 v g.1 (by omega)
  · exact topR_ok top_8 v g.1 (by omega)
  · exact topR_ok top_9 v g.1 (by omega)
  · exact topR_ok top_10 v g.1 (by omega)
theorem max_ex (P : Nat → Prop) : ∀ n, (∃ v, v < n ∧ P v ∧ ∀ i, i < n → P i → i ≤ v) ∨ ∀ i, i < n → ¬ P i
  | 0 => Or.inr (fun i hi => absurd hi (Nat.not_lt_zero _))
  | n + 1 => by
    by_cases h : P n
    · exact Or.inl ⟨n, by omega, h, fun i hi _ => by omega⟩
    · rcases max_ex P n with ⟨v, h1, h2, h3⟩ | h1
      · refine Or.inl ⟨v, by omega, h2, fun i hi hp => ?_⟩
        rcases Nat.lt_or_ge i n with g | g
        · exact h3 i g hp
        · exact absurd hp (by rw [show i = n by omega]; exact h)
      · refine Or.inr (fun i hi => ?_)
        rcases Nat.lt_or_ge i n with g | g
        · exact h1 i g
        · rw [show i = n by omega]; exact h
theorem gmx_at {G : Nat} (h : G ∈ GMx) : ∃ G' ∈ GMs, ∀ i, G.testBit (64 + i) = G'.testBit i := by
  rw [GMx_t] at h
  obtain ⟨G', h1, rfl⟩ := List.mem_map.mp h
  exact ⟨G', h1, fun i => up64 G' i⟩
theorem rot_G {Q : Nat → Prop} (h : rotN Q) : ∃ G ∈ GMs, ∀ i, Ri Q i → G.testBit i = true := by
  rcases max_ex (Ri Q) 479 with ⟨v, hv, hR, hmax⟩ | hno
  · have ht := top_all hv
    unfold top at ht
    simp only [frc_eq] at ht
    rw [(p_ok hv).2.2.1] at ht
    have hc1 : ∀ i, i ≤ v → (1 <<< (v + 65) - 1).testBit (64 + i) = true := fun i hi => by
      rw [Nat.one_shiftLeft, Nat.testBit_two_pow_sub_one]
      exact decide_eq_true (by omega)
    obtain ⟨c2, gl', q1, q2, q3⟩ := in_ok h (dec := []) (k := fun c2 gl' => srch 2000 c2 [uC v] gl') hR (fun i hi => Or.inl (hc1 i (hmax i hi.1 hi))) (fun i hi => by
      by_cases e : i = v
      · rw [e]; exact Or.inr List.mem_cons_self
      · left
        show ((1 <<< (v + 64) - 1) ^^^ sl v).testBit (64 + i) = true
        have := hmax i hi.1 hi
        rw [Nat.testBit_xor, sl_bit, Nat.one_shiftLeft, Nat.testBit_two_pow_sub_one, decide_eq_true (show 64 + i < v + 64 by omega)]
        rfl) (fun w hw => absurd hw List.not_mem_nil) (fun G hG => ⟨hG, fun i _ hm => absurd hm List.not_mem_nil⟩) ht
    obtain ⟨G, hG, hb⟩ := srch_ok h q3 q1 (fun w hw => by rw [List.mem_singleton.mp hw]; exact hR.2) q2
    obtain ⟨G', h1, h2⟩ := gmx_at hG
    exact ⟨G', h1, fun i hi => by rw [← h2]; exact hb i hi⟩
  · exact ⟨_, List.getElem_mem (show 0 < GMs.length by decide), fun i hi => absurd hi (hno i hi.1)⟩
