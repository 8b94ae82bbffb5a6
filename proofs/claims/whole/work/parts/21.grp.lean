/-! A row's front. -/
theorem take_ins {ks ks2 : List Int} {i : Nat} (hs : ks.Pairwise (· < ·)) (hi : i < ks.length) (h2 : ks2.Pairwise (· < ·)) (hr : rowIns (ks.take i) ks2 (ks.getD i (-1))) : ks2 = ks.take (i + 1) := by
  refine lt_ext h2 (hs.sublist (List.take_sublist _ _)) fun x => ?_
  rw [hr.1 x, mem_take_getD, mem_take_getD]
  constructor
  · rintro (⟨j, a, b, e⟩ | e)
    · exact ⟨j, by omega, b, e⟩
    · exact ⟨i, by omega, hi, e.symm⟩
  · rintro ⟨j, a, b, e⟩
    rcases Nat.lt_or_ge j i with q | q
    · exact Or.inl ⟨j, q, b, e⟩
    · obtain rfl : j = i := by omega
      exact Or.inr e.symm
theorem not_front {ks : List Int} {i : Nat} (hs : ks.Pairwise (· < ·)) (hi : i < ks.length) : ks.getD i (-1) ∉ ks.take i := by
  intro h
  obtain ⟨j, a, b, e⟩ := mem_take_getD.mp h
  have := getD_mono hs a hi
  omega
theorem bef_bd {n : Nat} {f : Nat → Int} {ks : List Int} (h : rowOK n f ks) {i : Nat} (hi : i ≤ ks.length) : -1 ≤ bef ks i ∧ bef ks i < 2147483648 := by
  unfold bef
  split
  · omega
  · have := h.rng (j := i - 1) (by omega)
    omega
