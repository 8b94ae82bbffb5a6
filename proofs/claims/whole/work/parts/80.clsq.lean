/-! CLASS: closed parts of the greatest ones; MATRICES and their negatives. -/
theorem pshG_sub {tb : Nat → Nat → Nat} {x inn : Nat} : ∀ {gs l : List Nat} {y : Nat}, y ∈ pshG tb x inn gs l → y ∈ l ∨ ∃ g ∈ gs, y = tb x g
  | [], _, _, h => Or.inl h
  | g :: r, l, y, h => by
    unfold pshG at h
    cases q : bitB inn (tb x g) with
    | true =>
      rw [q] at h
      rcases pshG_sub (gs := r) h with a | ⟨b, hb, e⟩
      · exact Or.inl a
      · exact Or.inr ⟨b, List.mem_cons_of_mem _ hb, e⟩
    | false =>
      rw [q] at h
      rcases pshG_sub (gs := r) h with a | ⟨b, hb, e⟩
      · rcases List.mem_cons.mp a with rfl | a
        · exact Or.inr ⟨g, List.mem_cons_self, rfl⟩
        · exact Or.inl a
      · exact Or.inr ⟨b, List.mem_cons_of_mem _ hb, e⟩
theorem pshA_sub {tb : Nat → Nat → Nat} {v inn : Nat} : ∀ {rg l : List Nat} {y : Nat}, y ∈ pshA tb v inn rg l → y ∈ l ∨ ∃ a, bitB inn a = true ∧ y = tb a v
  | [], _, _, h => Or.inl h
  | a :: r, l, y, h => by
    unfold pshA at h
    cases q : bitB inn a with
    | true =>
      rw [q] at h
      cases q2 : bitB inn (tb a v) with
      | true =>
        rw [q2] at h
        exact pshA_sub (rg := r) h
      | false =>
        rw [q2] at h
        rcases pshA_sub (rg := r) h with g | g
        · rcases List.mem_cons.mp g with rfl | g
          · exact Or.inr ⟨a, q, rfl⟩
          · exact Or.inl g
        · exact Or.inr g
    | false =>
      rw [q] at h
      exact pshA_sub (rg := r) h
theorem gsr_ok {N : Nat} {rg : List Nat} {tb : Nat → Nat → Nat} {ok : Nat → Bool} {R : Nat → Prop} (hc : ∀ a b, R a → R b → R (tb a b)) : ∀ {f inn out : Nat} {gs todo : List Nat}, gsr N rg tb ok f inn out gs todo = true → (∀ j, inn.testBit j = true → R j) → (∀ j, out.testBit j = true → ¬ R j) → (∀ g ∈ gs, R g) → (∀ x ∈ todo, R x) → ∃ m, ok m = true ∧ ∀ j, j < N → (m.testBit j = true ↔ R j)
  | 0, _, _, _, _, h, _, _, _, _ => by simp [gsr] at h
  | f + 1, inn, out, gs, [], h, hi, ho, hg, ht => by
    unfold gsr at h
    simp only [frc_eq] at h
    have tb1 : ∀ v j : Nat, (1 <<< v).testBit j = decide (v = j) := fun v j => by
      rw [Nat.one_shiftLeft, Nat.testBit_two_pow]
    cases q : Nat.beq (Nat.xor (Nat.shiftLeft 1 N - 1) (Nat.lor inn out)) 0 with
    | true =>
      rw [q] at h
      refine ⟨inn, h, fun j hj => ⟨hi j, fun hR => ?_⟩⟩
      have q : ((1 <<< N) - 1) ^^^ (inn ||| out) = 0 := Nat.eq_of_beq_eq_true q
      have q2 := congrArg (fun z => z.testBit j) q
      simp only [Nat.testBit_xor, Nat.testBit_or, Nat.zero_testBit, Nat.one_shiftLeft, Nat.testBit_two_pow_sub_one, decide_eq_true hj] at q2
      have hno : out.testBit j = false := by
        cases g : out.testBit j with
        | false => rfl
        | true => exact absurd hR (ho j g)
      rw [hno, Bool.or_false] at q2
      cases g : inn.testBit j with
      | true => rfl
      | false => rw [g] at q2; cases q2
    | false =>
      rw [q] at h
      simp only [cond_false, and_t] at h
      generalize Nat.log2 _ = v at h
      by_cases hv : R v
      · refine gsr_ok hc (f := f) h.1 hi ho (fun g hg2 => ?_) (fun x hx => ?_)
        · rcases List.mem_cons.mp hg2 with rfl | g2
          · exact hv
          · exact hg g g2
        · rcases List.mem_cons.mp hx with rfl | hx
          · exact hv
          · rcases pshA_sub hx with a | ⟨a, ha, e⟩
            · exact absurd a List.not_mem_nil
            · rw [e]
              rw [bitB_eq] at ha
              exact hc a v (hi a ha) hv
      · refine gsr_ok hc (f := f) h.2 hi (fun j hj => ?_) hg (fun x hx => absurd hx List.not_mem_nil)
        have hj : (out ||| (1 <<< v)).testBit j = true := hj
        rw [Nat.testBit_or, tb1, Bool.or_eq_true, decide_eq_true_iff] at hj
        rcases hj with hj | rfl
        · exact ho j hj
        · exact hv
  | f + 1, inn, out, gs, x :: l, h, hi, ho, hg, ht => by
    unfold gsr at h
    simp only [frc_eq] at h
    have hx := ht x List.mem_cons_self
    have hl : ∀ y ∈ l, R y := fun y hy => ht y (List.mem_cons_of_mem _ hy)
    cases q : bitB inn x with
    | true =>
      rw [q] at h
      exact gsr_ok hc (f := f) h hi ho hg hl
    | false =>
      rw [q] at h
      cases q2 : bitB out x with
      | true =>
        rw [bitB_eq] at q2
        exact absurd hx (ho x q2)
      | false =>
        rw [q2] at h
        simp only [cond_false] at h
        refine gsr_ok hc (f := f) h (fun j hj => ?_) ho hg (fun y hy => ?_)
        · have hj : (inn ||| (1 <<< x)).testBit j = true := hj
          rw [Nat.testBit_or, Nat.one_shiftLeft, Nat.testBit_two_pow, Bool.or_eq_true, decide_eq_true_iff] at hj
          rcases hj with hj | rfl
          · exact hi j hj
          · exact hx
        · rcases pshG_sub hy with a | ⟨g, hg2, e⟩
          · exact hl y a
          · rw [e]
            exact hc x g hx (hg g hg2)
/-! negatives -/
theorem neg_mdg {n : Nat} (h : n < 19683) : ∀ j, j < 9 → mdg (kN (19682 - n)) j = - mdg (kN n) j := by
  intro j hj
  unfold mdg kN
  have e : ((19682 - n : Nat) : Int) = 19682 - (n : Int) := by omega
  rw [e, show (13824 * (19682 - (n : Int))) / 13824 = 19682 - (n : Int) by omega, show (13824 * (n : Int)) / 13824 = (n : Int) by omega]
  rcases (show j = 0 ∨ j = 1 ∨ j = 2 ∨ j = 3 ∨ j = 4 ∨ j = 5 ∨ j = 6 ∨ j = 7 ∨ j = 8 by omega) with rfl | rfl | rfl | rfl | rfl | rfl | rfl | rfl | rfl <;> simp only [p3, List.getD_cons_zero, List.getD_cons_succ] <;> omega
theorem kN_sh (n : Nat) : kN n % 13824 = 0 := by unfold kN; omega
theorem movF_0 (g : Nat → Int) : movF g 0 0 = 0 := by
  unfold movF
  rw [show pX 0 = 0 from rfl, show pY 0 = 0 from rfl, show pZ 0 = 0 from rfl]
  simp only [Int.mul_zero, Int.add_zero, Int.zero_add]
  rfl
theorem detF_neg {a b : Nat → Int} (h : ∀ j, j < 9 → a j = - b j) : detF a = - detF b := by
  unfold detF
  rw [h 0 (by omega), h 1 (by omega), h 2 (by omega), h 3 (by omega), h 4 (by omega), h 5 (by omega), h 6 (by omega), h 7 (by omega), h 8 (by omega)]
  grind
theorem times_neg {p q r : Nat → Int} (hp : ∀ j, j < 9 → p j = - q j) (i : Nat) (hi : i < 3) (j : Nat) (hj : j < 3) : p (3 * i) * r j + p (3 * i + 1) * r (j + 3) + p (3 * i + 2) * r (j + 6) = - (q (3 * i) * r j + q (3 * i + 1) * r (j + 3) + q (3 * i + 2) * r (j + 6)) := by
  rw [hp _ (by omega), hp _ (by omega), hp _ (by omega)]
  grind
theorem t9 {t : Nat} (ht : t < 9) : ∃ i j, i < 3 ∧ j < 3 ∧ t = 3 * i + j := ⟨t / 3, t % 3, by omega, by omega, by omega⟩
theorem prod_negl {a : Nat} (ha : a < 19683) (q : Int) {t : Nat} (ht : t < 9) : prodD (kN (19682 - a)) q t = - prodD (kN a) q t := by
  obtain ⟨i, j, hi, hj, rfl⟩ := t9 ht
  rw [prodD_at _ _ hj, prodD_at _ _ hj]
  have n := neg_mdg ha
  rw [n _ (by omega), n _ (by omega), n _ (by omega)]
  grind
theorem prod_negr {b : Nat} (hb : b < 19683) (p : Int) {t : Nat} (ht : t < 9) : prodD p (kN (19682 - b)) t = - prodD p (kN b) t := by
  obtain ⟨i, j, hi, hj, rfl⟩ := t9 ht
  rw [prodD_at _ _ hj, prodD_at _ _ hj]
  have n := neg_mdg hb
  rw [n _ (by omega), n _ (by omega), n _ (by omega)]
  grind
theorem kN_times {a b c : Nat} (hc : c < 19683) (h : ∀ t, t < 9 → prodD (kN a) (kN b) t = mdg (kN c) t) : timesK (kN a) (kN b) = kN c := by
  have hin : ∀ t, t < 9 → -1 ≤ prodD (kN a) (kN b) t ∧ prodD (kN a) (kN b) t ≤ 1 := fun t ht => by rw [h t ht]; exact mdg_in _ _
  obtain ⟨q1, q2, q3⟩ := times_in hin
  refine key_ext q1 (kN_ok hc) (fun j hj => by rw [q2 j hj, h j hj]) ?_
  rw [q3, kN_sh, kN_sh, kN_sh, movF_0]
theorem kN_dig {a b c : Nat} (e : timesK (kN a) (kN b) = kN c) : ∀ t, t < 9 → prodD (kN a) (kN b) t = mdg (kN c) t := fun t ht => by
  have hne : timesK (kN a) (kN b) ≠ -1 := by rw [e]; unfold kN; omega
  rw [← e, (times_digits hne).2.1 t ht]
theorem negl {a b c : Nat} (ha : a < 19683) (hc : c < 19683) (e : timesK (kN a) (kN b) = kN c) : timesK (kN (19682 - a)) (kN b) = kN (19682 - c) :=
  kN_times (by omega) (fun t ht => by rw [prod_negl ha _ ht, kN_dig e t ht, neg_mdg hc t ht])
theorem negr {a b c : Nat} (hb : b < 19683) (hc : c < 19683) (e : timesK (kN a) (kN b) = kN c) : timesK (kN a) (kN (19682 - b)) = kN (19682 - c) :=
  kN_times (by omega) (fun t ht => by rw [prod_negr hb _ ht, kN_dig e t ht, neg_mdg hc t ht])
theorem kN_inj {a b : Nat} (e : kN a = kN b) : a = b := by unfold kN at e; omega
/-- a closed set of MATRICES, det 1 or -1 -/
def matN (Q : Nat → Prop) : Prop := clN Q ∧ ∀ n, Q n → detF (mdg (kN n)) = 1 ∨ detF (mdg (kN n)) = -1
def rotQ (Q : Nat → Prop) (n : Nat) : Prop := n < 19683 ∧ detF (mdg (kN n)) = 1 ∧ (Q n ∨ Q (19682 - n))
theorem matN.rot {Q : Nat → Prop} (h : matN Q) : rotN (rotQ Q) := by
  refine ⟨⟨fun n hn => hn.1, ⟨by decide, by decide, Or.inl h.1.2.1⟩, fun a b ha hb => ?_⟩, fun n hn => hn.2.1⟩
  have fin : ∀ c, c < 19683 → (Q c ∨ Q (19682 - c)) → timesK (kN a) (kN b) = kN c → ∃ c, rotQ Q c ∧ timesK (kN a) (kN b) = kN c := fun c hc hq e => by
    refine ⟨c, ⟨hc, ?_, hq⟩, e⟩
    have hne : timesK (kN a) (kN b) ≠ -1 := by rw [e]; unfold kN; omega
    have := det_times hne
    rw [e, ha.2.1, hb.2.1] at this
    exact this
  have nn : ∀ {n : Nat}, n < 19683 → 19682 - (19682 - n) = n := fun h => by omega
  rcases ha.2.2 with qa | qa <;> rcases hb.2.2 with qb | qb
  · obtain ⟨c, hc, e⟩ := h.1.2.2 a b qa qb
    exact fin c (h.1.1 c hc) (Or.inl hc) e
  · obtain ⟨c, hc, e⟩ := h.1.2.2 a _ qa qb
    have hl := h.1.1 c hc
    have e2 := negr (h.1.1 _ qb) hl e
    rw [nn hb.1] at e2
    exact fin _ (by omega) (Or.inr (by rw [nn hl]; exact hc)) e2
  · obtain ⟨c, hc, e⟩ := h.1.2.2 _ b qa qb
    have hl := h.1.1 c hc
    have e2 := negl (h.1.1 _ qa) hl e
    rw [nn ha.1] at e2
    exact fin _ (by omega) (Or.inr (by rw [nn hl]; exact hc)) e2
  · obtain ⟨c, hc, e⟩ := h.1.2.2 _ _ qa qb
    have hl := h.1.1 c hc
    have e2 := negl (h.1.1 _ qa) hl e
    rw [nn ha.1] at e2
    have e3 := negr (h.1.1 _ qb) (by omega) e2
    rw [nn hb.1, nn hl] at e3
    exact fin c hl (Or.inl hc) e3
