/-! Choosing some of a row, in order. -/
noncomputable def selT (ks : List Int) (p : Nat → Prop) : Nat → List Int
  | 0 => []
  | i + 1 => @ite (List Int) (p i) (Classical.propDecidable _) (selT ks p i ++ [ks.getD i (-1)]) (selT ks p i)
theorem selT_t {ks : List Int} {p : Nat → Prop} {i : Nat} (h : p i) : selT ks p (i + 1) = selT ks p i ++ [ks.getD i (-1)] := by
  show @ite (List Int) (p i) (Classical.propDecidable _) _ _ = _
  rw [if_pos h]
theorem selT_f {ks : List Int} {p : Nat → Prop} {i : Nat} (h : ¬ p i) : selT ks p (i + 1) = selT ks p i := by
  show @ite (List Int) (p i) (Classical.propDecidable _) _ _ = _
  rw [if_neg h]
theorem mem_selT {ks : List Int} {p : Nat → Prop} {x : Int} : ∀ {i : Nat}, x ∈ selT ks p i ↔ ∃ j, j < i ∧ p j ∧ ks.getD j (-1) = x
  | 0 => ⟨fun h => absurd h List.not_mem_nil, fun ⟨j, h, _⟩ => absurd h (Nat.not_lt_zero _)⟩
  | i + 1 => by
    have ih := mem_selT (ks := ks) (p := p) (x := x) (i := i)
    by_cases hp : p i
    · rw [selT_t hp, List.mem_append, ih]
      constructor
      · rintro (⟨j, a, b, e⟩ | q)
        · exact ⟨j, by omega, b, e⟩
        · exact ⟨i, by omega, hp, (List.mem_singleton.mp q).symm⟩
      · rintro ⟨j, a, b, e⟩
        rcases Nat.lt_or_ge j i with q | q
        · exact Or.inl ⟨j, q, b, e⟩
        · obtain rfl : j = i := by omega
          exact Or.inr (by rw [e]; exact List.mem_cons_self)
    · rw [selT_f hp, ih]
      constructor
      · rintro ⟨j, a, b, e⟩
        exact ⟨j, by omega, b, e⟩
      · rintro ⟨j, a, b, e⟩
        rcases Nat.lt_or_ge j i with q | q
        · exact ⟨j, q, b, e⟩
        · obtain rfl : j = i := by omega
          exact absurd b hp
theorem selT_sub {ks : List Int} {p : Nat → Prop} {i : Nat} (hi : i ≤ ks.length) {x : Int} (h : x ∈ selT ks p i) : x ∈ ks := by
  obtain ⟨j, a, _, e⟩ := mem_selT.mp h
  rw [← e]
  exact getD_mem (by omega)
theorem selT_sorted {ks : List Int} (hs : ks.Pairwise (· < ·)) {p : Nat → Prop} : ∀ {i : Nat}, i ≤ ks.length → (selT ks p i).Pairwise (· < ·)
  | 0, _ => List.Pairwise.nil
  | i + 1, hi => by
    have ih := selT_sorted hs (p := p) (i := i) (by omega)
    by_cases hp : p i
    · rw [selT_t hp, List.pairwise_append]
      refine ⟨ih, List.pairwise_singleton _ _, fun a ha b hb => ?_⟩
      obtain ⟨j, hj, _, e⟩ := mem_selT.mp ha
      rw [List.mem_singleton.mp hb, ← e]
      exact getD_mono hs hj (by omega)
    · rw [selT_f hp]; exact ih
theorem selT_len {ks : List Int} {p : Nat → Prop} : ∀ {i : Nat}, (selT ks p i).length = cnt p i
  | 0 => rfl
  | i + 1 => by
    have ih := selT_len (ks := ks) (p := p) (i := i)
    by_cases hp : p i
    · rw [selT_t hp, cnt_t hp, List.length_append, ih]; rfl
    · rw [selT_f hp, cnt_f hp, ih]
theorem selT_not {ks : List Int} (hs : ks.Pairwise (· < ·)) {p : Nat → Prop} {i : Nat} (hi : i < ks.length) : ks.getD i (-1) ∉ selT ks p i := by
  intro h
  obtain ⟨j, a, _, e⟩ := mem_selT.mp h
  have := getD_mono hs a hi
  omega
theorem selT_ins {ks ks2 : List Int} (hs : ks.Pairwise (· < ·)) {p : Nat → Prop} {i : Nat} (hi : i < ks.length) (hp : p i) (h2 : ks2.Pairwise (· < ·)) (hr : rowIns (selT ks p i) ks2 (ks.getD i (-1))) : ks2 = selT ks p (i + 1) := by
  refine lt_ext h2 (selT_sorted hs (by omega)) fun x => ?_
  rw [hr.1 x, selT_t hp, List.mem_append, List.mem_singleton]
