/-! The closure's cells and what they hold. -/
abbrev CS : Type := Int × (Nat → Int) × (Nat → Int) × Int × (Nat → Int) × Int × (Nat → Int) × (Nat → Int)
def CSt (fs : Int) (ff fc : Nat → Int) (cc : Int) (fg : Nat → Int) (gc : Int) (ks cm gs : List Int) : Prop :=
  rowOK 192 ff ks ∧ fs = (ks.length : Int) ∧ (∀ j, j < cm.length → fc j = cm.getD j (-1)) ∧ cc = (cm.length : Int) ∧ cm.length ≤ 192 ∧ (∀ j, j < gs.length → fg j = gs.getD j (-1)) ∧ gc = (gs.length : Int) ∧ gs.length ≤ 10 ∧ cm.length = ks.length
theorem times_bd (p q : Int) : -1 ≤ timesK p q ∧ timesK p q < 272097792 := by
  rcases times_rng (p := p) (q := q) with h | h
  · omega
  · unfold kOK at h; omega
theorem getD_snoc {a : List Int} {x : Int} {j : Nat} : (a ++ [x]).getD j (-1) = if j < a.length then a.getD j (-1) else if j = a.length then x else -1 := by
  rw [getD_app]
  by_cases h : j < a.length
  · rw [if_pos h, if_pos h]
  · rw [if_neg h, if_neg h]
    by_cases h2 : j = a.length
    · rw [if_pos h2, h2, Nat.sub_self]
      rfl
    · rw [if_neg h2, getD_out (by simp; omega)]
theorem cst_step {fs : Int} {ff fc : Nat → Int} {cc : Int} {fg : Nat → Int} {gc : Int} {ks cm gs : List Int} (h : CSt fs ff fc cc fg gc ks cm gs) (hl : cm.length < 192) {x : Int} {ff2 : Nat → Int} {ks2 : List Int} (h2 : rowOK 192 ff2 ks2) (hi : rowIns ks ks2 x) : CSt (ks2.length : Int) ff2 (zu fc cm.length x) (cc + 1) fg gc ks2 (cm ++ [x]) gs := by
  obtain ⟨h1, -, h3, h4, h5, h6, h7, h8, h9⟩ := h
  refine ⟨h2, rfl, fun j hj => ?_, ?_, ?_, h6, h7, h8, ?_⟩
  · rw [getD_snoc]
    unfold zu
    rw [List.length_append, List.length_singleton] at hj
    by_cases a : j < cm.length
    · rw [if_neg (by omega), if_pos a, h3 j a]
    · rw [if_pos (by omega), if_neg a, if_pos (by omega)]
  · rw [h4, List.length_append, List.length_singleton]; omega
  · rw [List.length_append, List.length_singleton]; omega
  · rw [List.length_append, List.length_singleton, hi.2]; omega
/-- the coset, as far as it has come -/
def cmI (cm : List Int) (key : Int) (i : Nat) : List Int := cm ++ (cm.take i).map (fun h => timesK h key)
theorem cmI_0 (cm : List Int) (key : Int) : cmI cm key 0 = cm := by simp [cmI]
theorem cmI_s {cm : List Int} {key : Int} {i : Nat} (h : i < cm.length) : cmI cm key (i + 1) = cmI cm key i ++ [timesK (cm.getD i (-1)) key] := by
  unfold cmI
  rw [List.take_succ_eq_append_getElem h, List.map_append, List.append_assoc]
  simp [h]
theorem cmI_len {cm : List Int} {key : Int} {i : Nat} (h : i ≤ cm.length) : (cmI cm key i).length = cm.length + i := by
  unfold cmI
  rw [List.length_append, List.length_map, List.length_take]
  omega
theorem cmI_at {cm : List Int} {key : Int} {i j : Nat} (h : j < cm.length) : (cmI cm key i).getD j (-1) = cm.getD j (-1) := by
  unfold cmI
  rw [getD_app, if_pos h]
theorem mem_take_getD {cm : List Int} {n : Nat} {x : Int} : x ∈ cm.take n ↔ ∃ j, j < n ∧ j < cm.length ∧ cm.getD j (-1) = x := by
  constructor
  · intro h
    obtain ⟨j, hj, e⟩ := List.getElem_of_mem h
    rw [List.length_take] at hj
    rw [List.getElem_take] at e
    refine ⟨j, by omega, by omega, ?_⟩
    rw [List.getD_eq_getElem?_getD, List.getElem?_eq_getElem (by omega)]
    exact e
  · rintro ⟨j, h1, h2, rfl⟩
    rw [List.getD_eq_getElem?_getD, List.getElem?_eq_getElem h2]
    have : (cm.take n)[j]? = some cm[j] := by rw [List.getElem?_take, if_pos h1, List.getElem?_eq_getElem h2]
    exact List.mem_of_getElem? this
/-- what is new of a coset -/
def newAt (cm : List Int) (key : Int) (i : Nat) (x : Int) : Prop := ∃ j, j < i ∧ j < cm.length ∧ timesK (cm.getD j (-1)) key = x
theorem mem_new {cm : List Int} {key x : Int} {i : Nat} : x ∈ (cm.take i).map (fun h => timesK h key) ↔ newAt cm key i x := by
  rw [List.mem_map]
  constructor
  · rintro ⟨a, ha, e⟩
    obtain ⟨j, h1, h2, rfl⟩ := mem_take_getD.mp ha
    exact ⟨j, h1, h2, e⟩
  · rintro ⟨j, h1, h2, e⟩
    exact ⟨_, mem_take_getD.mpr ⟨j, h1, h2, rfl⟩, e⟩
