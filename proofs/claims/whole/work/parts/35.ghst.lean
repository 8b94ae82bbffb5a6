/-! A GROUP's cells; the whole object's. -/
abbrev ARec : Type := Nat × Nat × Nat × (Nat → Int) × (Nat → Int) × Int
abbrev HRec : Type := Nat × Nat × (Nat → Int) × Nat
abbrev GRec : Type := Nat × Nat × Nat × List Int × (Nat → Int) × Int × Int × Option ARec × Option HRec
def aW (cI : ClassId) (n : Nat) : Option ARec → va_W
  | none => []
  | some (s, sa, za, so, sz, ct) => [(s, .inr (0, [.ref sa, .ref za, .int (iI ct)])), (sa, .inl (cI, n, .inl (zf so))), (za, .inl (cI, n, .inl (zf sz)))]
def hW (cI : ClassId) (n : Nat) : Option HRec → va_W
  | none => []
  | some (h, ca, co, bb) => [(h, .inr (4, [.ref ca, .int (iI (bb : Int))])), (ca, .inl (cI, n, .inl (zf co)))]
def g3W (cI : ClassId) : GRec → va_W
  | (g, k, ka, ks, fk, lt, pcl, al, hv) => [(g, .inr (3, [.ref k, .int (iI (matT ks ks.length)), .int (iI (cenT ks ks.length)), .int (iI lt), .int (iI pcl), va_rf (al.map (fun a => a.1)), va_rf (hv.map (fun a => a.1))])), (k, .inr (5, [.ref ka, .int (iI (ks.length : Int))])), (ka, .inl (cI, ks.length, .inl (zf fk)))]
def gW (cI : ClassId) (q : GRec) : va_W := g3W cI q ++ (aW cI q.2.2.2.1.length q.2.2.2.2.2.2.2.1 ++ hW cI q.2.2.2.1.length q.2.2.2.2.2.2.2.2)
def alOK (ks : List Int) : Option ARec → Prop
  | none => True
  | some (_, _, _, so, sz, ct) => inN ks.length so ∧ ct = (nAlk ks : Int) ∧ ∀ k, k < ks.length → sz (so k).toNat = (mAlk ks k : Int)
def hvOK (ks : List Int) : Option HRec → Prop
  | none => True
  | some (_, _, co, bb) => ∃ K, sqG ks K ∧ HIv ks K co bb ∧ (∀ x, x < ks.length → co x ≠ -1) ∧ bb < 8
/-- a GROUP's keys -/
def gK (q : GRec) : List Int := q.2.2.2.1
def gkOK (ks : List Int) : Prop := isG ks ∧ ks.Pairwise (· < ·) ∧ ks.length ≤ 192 ∧ 0 ≤ rowT ks ks.length ∧ rowT ks ks.length < 2147483648
def gOK : GRec → Prop
  | (_, _, _, ks, fk, lt, pcl, al, hv) => gkOK ks ∧ rowOK ks.length fk ks ∧ (∃ i, lix ks u0 i ∧ lt = letK ks i (cenT ks ks.length)) ∧ clsF (rowT ks ks.length) pcl ∧ alOK ks al ∧ hvOK ks hv
def poolW (cI : ClassId) (gs : List GRec) : va_W := gs.flatMap (gW cI)
theorem pool_at {cI : ClassId} {gs : List GRec} {i : Nat} {q : GRec} (h : gs[i]? = some q) : ∃ rest, (poolW cI gs).Perm (gW cI q ++ rest) ∧ ∀ q' : GRec, (poolW cI (gs.set i q')).Perm (gW cI q' ++ rest) := by
  obtain ⟨hi, e⟩ := List.getElem?_eq_some_iff.mp h
  refine ⟨poolW cI (gs.take i) ++ poolW cI (gs.drop (i + 1)), ?_, fun q' => ?_⟩
  · have h1 : gs = gs.take i ++ q :: gs.drop (i + 1) := by
      rw [← e, List.getElem_cons_drop, List.take_append_drop]
    have h2 : poolW cI gs = poolW cI (gs.take i) ++ (gW cI q ++ poolW cI (gs.drop (i + 1))) := by
      conv => lhs; rw [h1]
      unfold poolW
      rw [List.flatMap_append, List.flatMap_cons]
    rw [h2, ← List.append_assoc, ← List.append_assoc]
    exact List.Perm.append_right _ List.perm_append_comm
  · have h1 : gs.set i q' = gs.take i ++ q' :: gs.drop (i + 1) := List.set_eq_take_append_cons_drop .. |>.trans (by rw [if_pos hi])
    have h2 : poolW cI (gs.set i q') = poolW cI (gs.take i) ++ (gW cI q' ++ poolW cI (gs.drop (i + 1))) := by
      rw [h1]
      unfold poolW
      rw [List.flatMap_append, List.flatMap_cons]
    rw [h2, ← List.append_assoc, ← List.append_assoc]
    exact List.Perm.append_right _ List.perm_append_comm
theorem mem_pool {cI : ClassId} {gs : List GRec} {q : GRec} (h : q ∈ gs) : ∀ c ∈ gW cI q, c ∈ poolW cI gs := fun _ hc => List.mem_flatMap.mpr ⟨q, h, hc⟩
theorem zperm_snoc {X pl : va_W} {c : Nat × va_E} : ((X ++ pl) ++ [c]).Perm ((X ++ [c]) ++ pl) := by
  rw [List.append_assoc, List.append_assoc]
  exact List.Perm.append_left _ List.perm_append_comm
/-- numbering: the number of a GROUP, made if it is new and there is room -/
def numR (kss : List (List Int)) (ks : List Int) (z : Int) (kss' : List (List Int)) : Prop :=
  (∃ i : Nat, i < kss.length ∧ kss[i]? = some ks ∧ (∀ j, j < i → kss[j]? ≠ some ks) ∧ z = (i : Int) ∧ kss' = kss) ∨
  ((∀ j : Nat, kss[j]? ≠ some ks) ∧ 40 ≤ kss.length ∧ z = -1 ∧ kss' = kss) ∨
  ((∀ j : Nat, kss[j]? ≠ some ks) ∧ kss.length < 40 ∧ z = (kss.length : Int) ∧ kss' = kss ++ [ks])
def GInv (gs : List GRec) (hf : Nat → Option Nat) : Prop := gs.length ≤ 40 ∧ (∀ i q, gs[i]? = some q → hf i = some q.1) ∧ ∀ q ∈ gs, gOK q
theorem GInv.push {gs : List GRec} {hf : Nat → Option Nat} (h : GInv gs hf) {q : GRec} (hl : gs.length < 40) (hq : gOK q) : GInv (gs ++ [q]) (va_up hf gs.length (some q.1)) := by
  refine ⟨by rw [List.length_append]; show _ + 1 ≤ 40; omega, fun i q' hi => ?_, fun q' hq' => ?_⟩
  · unfold va_up
    rcases Nat.lt_or_ge i gs.length with a | a
    · rw [if_neg (by omega)]
      rw [List.getElem?_append_left a] at hi
      exact h.2.1 i q' hi
    · rw [List.getElem?_append_right a] at hi
      obtain ⟨hlt, _⟩ := List.getElem?_eq_some_iff.mp hi
      have : i = gs.length := by
        rw [List.length_singleton] at hlt; omega
      subst this
      rw [Nat.sub_self] at hi
      rw [if_pos rfl]
      have e : q = q' := Option.some.inj hi
      rw [e]
  · rcases List.mem_append.mp hq' with a | a
    · exact h.2.2 q' a
    · rw [List.mem_singleton.mp a]; exact hq
theorem pool_push (cI : ClassId) (gs : List GRec) (q : GRec) : poolW cI (gs ++ [q]) = poolW cI gs ++ gW cI q := by
  unfold poolW
  rw [List.flatMap_append]
  simp
theorem gs_at {gs : List GRec} {i : Nat} (h : i < gs.length) : ∃ q, gs[i]? = some q := ⟨gs[i], List.getElem?_eq_getElem h⟩
/-- three cells more, at the front: at the end -/
theorem zperm_end {a b c d e f g x y z : Nat × va_E} {pl : va_W} : ([a, b, c, d, e, f, g, x, y, z] ++ pl).Perm ([a, b, c, d, e, f, g] ++ (pl ++ [x, y, z])) := by
  show ([a, b, c, d, e, f, g] ++ ([x, y, z] ++ pl)).Perm _
  exact List.Perm.append_left _ List.perm_append_comm
