/-! ORBITS; a GROUP out of the rest and back. -/
def orbL (ks : List Int) (pl : Int) (n : Nat) (L : List Int) : Prop := ∀ y, y ∈ L ↔ ∃ j, j < n ∧ movK (ks.getD j (-1)) pl = y
theorem orbL_s {ks L L2 : List Int} {pl : Int} {n : Nat} (h : orbL ks pl n L) (hr : ∀ y, y ∈ L2 ↔ y ∈ L ∨ y = movK (ks.getD n (-1)) pl) : orbL ks pl (n + 1) L2 := by
  intro y
  rw [hr y, h y]
  constructor
  · rintro (⟨j, a, e⟩ | e)
    · exact ⟨j, by omega, e⟩
    · exact ⟨n, by omega, e.symm⟩
  · rintro ⟨j, a, e⟩
    rcases Nat.lt_or_ge j n with q | q
    · exact Or.inl ⟨j, q, e⟩
    · obtain rfl : j = n := by omega
      exact Or.inr e.symm
theorem zfoc {X pool g3 ah rest : va_W} (h : pool.Perm ((g3 ++ ah) ++ rest)) : (X ++ pool).Perm ((X ++ g3) ++ (ah ++ rest)) := by
  rw [List.append_assoc X, ← List.append_assoc g3]
  exact h.append_left X
theorem zunf {X pool g3 ah rest : va_W} (h : pool.Perm ((g3 ++ ah) ++ rest)) : ((X ++ g3) ++ (ah ++ rest)).Perm (X ++ pool) := (zfoc h).symm
theorem set_same {gs : List GRec} {i : Nat} {q : GRec} (h : gs[i]? = some q) : gs.set i q = gs := by
  obtain ⟨hi, e⟩ := List.getElem?_eq_some_iff.mp h
  rw [← e]
  exact List.set_getElem_self hi
