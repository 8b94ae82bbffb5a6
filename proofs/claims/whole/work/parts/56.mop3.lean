/-! The reference: numbering and closing; pure. -/
def fset (f : Nat → Int) (n : Nat) (ks : List Int) : Prop := (∀ x, (∃ j, j < n ∧ f j = x) ↔ x ∈ ks) ∧ ∀ i j, i < n → j < n → f i = f j → i = j
def srt (f : Nat → Int) (k : Nat) : Prop := ∀ i j, i < j → j < k → f i < f j
def shf (f0 : Nat → Int) (k i : Nat) : Nat → Int := fun j => if i < j ∧ j ≤ k then f0 (j - 1) else f0 j
theorem shf_k (f0 : Nat → Int) (k : Nat) : shf f0 k k = f0 := by
  funext j
  unfold shf
  rw [if_neg (by omega)]
theorem shf_le (f0 : Nat → Int) {k i j : Nat} (h : j ≤ i) : shf f0 k i j = f0 j := by
  unfold shf
  rw [if_neg (by omega)]
theorem shf_s (f0 : Nat → Int) {k i : Nat} (h0 : 0 < i) (h : i ≤ k) : zu (shf f0 k i) i (f0 (i - 1)) = shf f0 k (i - 1) := by
  funext j
  unfold zu shf
  by_cases e : j = i
  · subst e
    rw [if_pos rfl, if_pos (by omega)]
  · rw [if_neg e]
    by_cases g : i < j ∧ j ≤ k
    · rw [if_pos g, if_pos (by omega)]
    · rw [if_neg g, if_neg (by omega)]
theorem ins_ok {f0 : Nat → Int} {n k i : Nat} {ks : List Int} (hk : k < n) (hi : i ≤ k) (hs : fset f0 n ks) (ho : srt f0 k) (h1 : ∀ j, i ≤ j → j < k → f0 k < f0 j) (h2 : i = 0 ∨ f0 (i - 1) ≤ f0 k) : fset (zu (shf f0 k i) i (f0 k)) n ks ∧ srt (zu (shf f0 k i) i (f0 k)) (k + 1) := by
  have e : ∀ j, zu (shf f0 k i) i (f0 k) j = f0 (if j = i then k else if i < j ∧ j ≤ k then j - 1 else j) := by
    intro j
    unfold zu shf
    by_cases g1 : j = i
    · rw [if_pos g1, if_pos g1]
    · rw [if_neg g1, if_neg g1]
      by_cases g2 : i < j ∧ j ≤ k
      · rw [if_pos g2, if_pos g2]
      · rw [if_neg g2, if_neg g2]
  have h3 : ∀ j, j < i → f0 j < f0 k := by
    intro j hj
    rcases h2 with h | h
    · omega
    · have a1 : f0 j ≤ f0 (i - 1) := by
        rcases Nat.lt_or_ge j (i - 1) with g | g
        · exact Int.le_of_lt (ho j (i - 1) g (by omega))
        · rw [show j = i - 1 by omega]; exact Int.le_refl _
      have a2 : f0 j ≠ f0 k := fun q => by have := hs.2 j k (by omega) hk q; omega
      omega
  refine ⟨⟨fun x => ?_, fun a b ha hb q => ?_⟩, fun a b hab hb => ?_⟩
  · rw [← hs.1 x]
    constructor
    · rintro ⟨j, hj, q⟩
      rw [e] at q
      refine ⟨_, ?_, q⟩
      split
      · exact hk
      · split <;> omega
    · rintro ⟨j, hj, q⟩
      refine ⟨if j = k then i else if i ≤ j ∧ j < k then j + 1 else j, ?_, ?_⟩
      · split
        · omega
        · split <;> omega
      · rw [e, ← q]
        congr 1
        by_cases g1 : j = k
        · rw [if_pos g1, if_pos rfl, g1]
        · rw [if_neg g1]
          by_cases g2 : i ≤ j ∧ j < k
          · rw [if_pos g2, if_neg (by omega), if_pos (by omega)]; omega
          · rw [if_neg g2, if_neg (by omega), if_neg (by omega)]
  · rw [e, e] at q
    have q2 := hs.2 _ _ (by split <;> first | exact hk | (split <;> omega)) (by split <;> first | exact hk | (split <;> omega)) q
    by_cases g1 : a = i <;> by_cases g2 : b = i <;> simp only [g1, g2, if_true, if_false] at q2 <;> first | omega | (split at q2 <;> first | omega | (split at q2 <;> omega))
  · rw [e, e]
    by_cases g1 : a = i
    · rw [if_pos g1, if_neg (by omega), if_pos (by omega)]
      exact h1 _ (by omega) (by omega)
    · rw [if_neg g1]
      by_cases g2 : b = i
      · rw [if_pos g2, if_neg (by omega)]
        exact h3 a (by omega)
      · rw [if_neg g2]
        by_cases g3 : i < a ∧ a ≤ k
        · rw [if_pos g3, if_pos (by omega)]
          exact ho _ _ (by omega) (by omega)
        · rw [if_neg g3]
          by_cases g4 : i < b ∧ b ≤ k
          · rw [if_pos g4]
            exact ho _ _ (by omega) (by omega)
          · rw [if_neg g4]
            exact ho _ _ hab (by omega)
theorem emb_of {f : Nat → Int} {n : Nat} {ks : List Int} (hs : ks.Pairwise (· < ·)) (h : fset f n ks) (ho : srt f n) : n = ks.length ∧ emb f 0 ks := by
  have e : (List.range n).map f = ks := by
    refine lt_ext ?_ hs fun x => ?_
    · rw [List.pairwise_map, List.pairwise_iff_getElem]
      intro i j hi hj hij
      rw [List.getElem_range, List.getElem_range]
      rw [List.length_range] at hj
      exact ho i j hij hj
    · rw [← h.1 x, List.mem_map]
      constructor
      · rintro ⟨j, hj, q⟩
        exact ⟨j, List.mem_range.mp hj, q⟩
      · rintro ⟨j, hj, q⟩
        exact ⟨j, List.mem_range.mpr hj, q⟩
  have el : n = ks.length := by rw [← e, List.length_map, List.length_range]
  refine ⟨el, fun j hj => ?_⟩
  rw [Nat.zero_add, ← e, List.getD_eq_getElem?_getD, List.getElem?_map, List.getElem?_range (by omega)]
  rfl
theorem fset_of {f : Nat → Int} {L ks : List Int} (he : emb f 0 L) (hn : L.Nodup) (hm : ∀ x, x ∈ L ↔ x ∈ ks) : fset f L.length ks := by
  have e : ∀ j, j < L.length → f j = L.getD j (-1) := fun j hj => by have := he j hj; rw [Nat.zero_add] at this; exact this
  refine ⟨fun x => ?_, fun i j hi hj q => ?_⟩
  · rw [← hm x]
    constructor
    · rintro ⟨j, hj, q⟩
      rw [← q, e j hj]
      exact getD_mem hj
    · intro h
      obtain ⟨j, hj, q⟩ := mem_getD h
      exact ⟨j, hj, by rw [e j hj]; exact q⟩
  · rw [e i hi, e j hj, List.getD_eq_getElem?_getD, List.getD_eq_getElem?_getD, List.getElem?_eq_getElem hi, List.getElem?_eq_getElem hj] at q
    have q : L[i] = L[j] := q
    rcases Nat.lt_trichotomy i j with g | g | g
    · exact absurd q (List.pairwise_iff_getElem.mp hn i j hi hj g)
    · exact g
    · exact absurd q.symm (List.pairwise_iff_getElem.mp hn j i hj hi g)
/-- put into its place -/
def insL (x : Int) : List Int → List Int
  | [] => [x]
  | y :: l => if x < y then x :: y :: l else y :: insL x l
theorem mem_insL {x y : Int} : ∀ {l : List Int}, y ∈ insL x l ↔ y = x ∨ y ∈ l
  | [] => by simp [insL]
  | z :: l => by
    unfold insL
    split
    · simp
    · rw [List.mem_cons, mem_insL, List.mem_cons]
      constructor
      · rintro (h | h | h)
        · exact Or.inr (Or.inl h)
        · exact Or.inl h
        · exact Or.inr (Or.inr h)
      · rintro (h | h | h)
        · exact Or.inr (Or.inl h)
        · exact Or.inl h
        · exact Or.inr (Or.inr h)
theorem srt_insL {x : Int} : ∀ {l : List Int}, l.Pairwise (· < ·) → x ∉ l → (insL x l).Pairwise (· < ·)
  | [], _, _ => List.pairwise_singleton _ _
  | z :: l, h, hx => by
    rw [List.pairwise_cons] at h
    unfold insL
    split
    · rename_i g
      rw [List.pairwise_cons, List.pairwise_cons]
      refine ⟨fun y hy => ?_, h⟩
      rcases List.mem_cons.mp hy with rfl | q
      · exact g
      · have := h.1 y q; omega
    · rename_i g
      rw [List.mem_cons] at hx
      rw [List.pairwise_cons]
      refine ⟨fun y hy => ?_, srt_insL h.2 (fun q => hx (Or.inr q))⟩
      rcases mem_insL.mp hy with rfl | q
      · have : y ≠ z := fun q => hx (Or.inl q)
        omega
      · exact h.1 y q
theorem sorted_of : ∀ (L : List Int), L.Nodup → ∃ ks : List Int, ks.Pairwise (· < ·) ∧ ∀ x, x ∈ L ↔ x ∈ ks
  | [], _ => ⟨[], List.Pairwise.nil, fun _ => Iff.rfl⟩
  | x :: L, h => by
    rw [List.nodup_cons] at h
    obtain ⟨ks, hs, hm⟩ := sorted_of L h.2
    refine ⟨insL x ks, srt_insL hs (fun q => h.1 ((hm x).mpr q)), fun y => ?_⟩
    rw [List.mem_cons, mem_insL, hm y]
theorem len_same {L ks : List Int} (hn : L.Nodup) (hs : ks.Pairwise (· < ·)) (hm : ∀ x, x ∈ L ↔ x ∈ ks) : ks.length = L.length :=
  Nat.le_antisymm (len_sub _ _ (nodup_lt hs) fun x hx => (hm x).mpr hx) (len_sub _ _ hn fun x hx => (hm x).mp hx)
theorem MEM.push {fm fz fm1 : Nat → Int} {kss : List (List Int)} {ks : List Int} (h : MEM fm fz kss) (hl : kss.length < 40) (hk : gkM ks) (h1 : ∀ t, t < 192 * kss.length → fm1 t = fm t) (h2 : emb fm1 (192 * kss.length) ks) : MEM fm1 (zu fz kss.length (ks.length : Int)) (kss ++ [ks]) := by
  refine ⟨by rw [List.length_append]; show _ + 1 ≤ 40; omega, fun g ks' hg => ?_⟩
  rcases Nat.lt_or_ge g kss.length with a | a
  · rw [List.getElem?_append_left a] at hg
    obtain ⟨q1, q2, q3⟩ := h.2 g ks' hg
    have := q3.2.2
    refine ⟨fun j hj => ?_, by rw [zu_n _ _ (by omega)]; exact q2, q3⟩
    rw [h1 _ (by omega)]
    exact q1 j hj
  · rw [List.getElem?_append_right a] at hg
    have hz : g - kss.length < 1 := (List.getElem?_eq_some_iff.mp hg).1
    obtain rfl : g = kss.length := by omega
    rw [Nat.sub_self] at hg
    cases hg
    exact ⟨h2, zu_s .., hk⟩
/-- closing, as far as it has come -/
def BI (chs L : List Int) (k : Nat) : Prop := L.Nodup ∧ u0 ∈ L ∧ (∀ x ∈ L, vOK x ∧ Reach chs x) ∧ k ≤ L.length ∧ ∀ j, j < k → ∀ a ∈ chs, timesK (L.getD j (-1)) a ∈ L
theorem BI.start (chs : List Int) : BI chs [u0] 0 := ⟨(by simp), List.mem_singleton.mpr rfl, fun x hx => by rw [List.mem_singleton.mp hx]; exact ⟨u0_v, Reach.u _⟩, Nat.zero_le _, fun j hj => absurd hj (Nat.not_lt_zero _)⟩
theorem BI.no1 {chs L : List Int} {k : Nat} (h : BI chs L k) {x a : Int} (hx : x ∈ L) (ha : a ∈ chs) (e : timesK x a = -1) : ¬ ∃ ks, genOK chs ks := by
  rintro ⟨ks, hg⟩
  exact hg.2.2.2 x ((hg.2.2.1 x).mpr (h.2.2.1 x hx).2) a ha e
theorem BI.no2 {chs L : List Int} {k : Nat} (h : BI chs L k) (hl : 192 ≤ L.length) {x a : Int} (hx : x ∈ L) (ha : a ∈ chs) (hne : timesK x a ≠ -1) (hn : timesK x a ∉ L) : ¬ ∃ ks, genOK chs ks := by
  rintro ⟨ks, hg⟩
  have h1 := len_sub (timesK x a :: L) ks (List.nodup_cons.mpr ⟨hn, h.1⟩) (fun y hy => by
    rcases List.mem_cons.mp hy with rfl | q
    · exact (hg.2.2.1 _).mpr (Reach.step (h.2.2.1 x hx).2 ha hne)
    · exact (hg.2.2.1 _).mpr (h.2.2.1 y q).2)
  have := hg.2.1
  rw [List.length_cons] at h1
  omega
theorem BI.push {chs L : List Int} {k : Nat} (h : BI chs L k) (hv : ∀ a ∈ chs, vOK a) {x a : Int} (hx : x ∈ L) (ha : a ∈ chs) (hne : timesK x a ≠ -1) (hn : timesK x a ∉ L) : BI chs (L ++ [timesK x a]) k := by
  refine ⟨?_, List.mem_append_left _ h.2.1, fun y hy => ?_, by rw [len_snoc]; have := h.2.2.2.1; omega, fun j hj b hb => ?_⟩
  · rw [List.nodup_append]
    refine ⟨h.1, (by simp), fun y hy z hz e => ?_⟩
    rw [List.mem_singleton.mp hz] at e
    exact hn (e ▸ hy)
  · rcases List.mem_append.mp hy with q | q
    · exact h.2.2.1 y q
    · rw [List.mem_singleton.mp q]
      exact ⟨vOK_times (h.2.2.1 x hx).1 (hv a ha) hne, Reach.step (h.2.2.1 x hx).2 ha hne⟩
  · have := h.2.2.2.1
    rw [getD_snoc_l (by omega)]
    exact List.mem_append_left _ (h.2.2.2.2 j hj b hb)
theorem BI.next {chs L : List Int} {k : Nat} (h : BI chs L k) (hk : k < L.length) (ht : ∀ t, t < chs.length → timesK (L.getD k (-1)) (chs.getD t (-1)) ∈ L) : BI chs L (k + 1) :=
  ⟨h.1, h.2.1, h.2.2.1, by omega, fun j hj a ha => by
    rcases Nat.lt_or_ge j k with g | g
    · exact h.2.2.2.2 j g a ha
    · obtain rfl : j = k := by omega
      obtain ⟨t, ht2, e⟩ := mem_getD ha
      rw [← e]
      exact ht t ht2⟩
theorem BI.done {chs L : List Int} (h : BI chs L L.length) (hl : L.length ≤ 192) (hv : ∀ a ∈ chs, vOK a) : ∃ ks, genOK chs ks ∧ (∀ x, x ∈ L ↔ x ∈ ks) ∧ ks.length = L.length ∧ gkM ks := by
  obtain ⟨ks, hs, hm⟩ := sorted_of L h.1
  have hlen := len_same h.1 hs hm
  have hcl : ∀ x ∈ L, ∀ a ∈ chs, timesK x a ∈ L := fun x hx a ha => by
    obtain ⟨j, hj, rfl⟩ := mem_getD hx
    exact h.2.2.2.2 j hj a ha
  have hg : genOK chs ks := by
    refine ⟨hs, by omega, fun x => ⟨fun hx => (h.2.2.1 x ((hm x).mpr hx)).2, fun hr => (hm x).mp (hr (fun y => y ∈ L) h.2.1 fun y a hy ha _ => hcl y hy a ha)⟩, fun x hx a ha => ?_⟩
    have := (h.2.2.1 _ (hcl x ((hm x).mpr hx) a ha)).1.1.1
    omega
  exact ⟨ks, hg, hm, hlen, hg.isG hv, hs, by omega⟩
