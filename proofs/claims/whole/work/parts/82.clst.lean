/-! CLASS: along a row of keys. -/
def nlK (ks : List Int) : Nat → List Int
  | 0 => []
  | i + 1 => if ks.getD i (-1) / 13824 = bef ks i then nlK ks i else nlK ks i ++ [ks.getD i (-1) / 13824]
theorem nlK_t {ks : List Int} {i : Nat} (h : ks.getD i (-1) / 13824 = bef ks i) : nlK ks (i + 1) = nlK ks i := if_pos h
theorem nlK_f {ks : List Int} {i : Nat} (h : ¬ ks.getD i (-1) / 13824 = bef ks i) : nlK ks (i + 1) = nlK ks i ++ [ks.getD i (-1) / 13824] := if_neg h
theorem nlK_mem {ks : List Int} (h0 : ∀ j, j < ks.length → 0 ≤ ks.getD j (-1)) {x : Int} : ∀ {i : Nat}, i ≤ ks.length → (x ∈ nlK ks i ↔ ∃ j, j < i ∧ ks.getD j (-1) / 13824 = x)
  | 0, _ => ⟨fun h => absurd h List.not_mem_nil, fun ⟨j, h, _⟩ => absurd h (Nat.not_lt_zero _)⟩
  | i + 1, hi => by
    have ih := nlK_mem h0 (x := x) (i := i) (by omega)
    by_cases h : ks.getD i (-1) / 13824 = bef ks i
    · rw [nlK_t h, ih]
      constructor
      · rintro ⟨j, a, b⟩
        exact ⟨j, by omega, b⟩
      · rintro ⟨j, a, b⟩
        rcases Nat.lt_or_ge j i with g | g
        · exact ⟨j, g, b⟩
        · obtain rfl : j = i := by omega
          unfold bef at h
          by_cases z : j = 0
          · rw [if_pos z] at h
            have := h0 j (by omega)
            omega
          · rw [if_neg z] at h
            exact ⟨j - 1, by omega, by rw [← h]; exact b⟩
    · rw [nlK_f h, List.mem_append, ih]
      constructor
      · rintro (⟨j, a, b⟩ | q)
        · exact ⟨j, by omega, b⟩
        · exact ⟨i, by omega, (List.mem_singleton.mp q).symm⟩
      · rintro ⟨j, a, b⟩
        rcases Nat.lt_or_ge j i with g | g
        · exact Or.inl ⟨j, g, b⟩
        · obtain rfl : j = i := by omega
          exact Or.inr (List.mem_singleton.mpr b.symm)
theorem nlK_nd {ks : List Int} (hs : ks.Pairwise (· < ·)) (h0 : ∀ j, j < ks.length → 0 ≤ ks.getD j (-1)) : ∀ {i : Nat}, i ≤ ks.length → (nlK ks i).Nodup
  | 0, _ => List.nodup_nil
  | i + 1, hi => by
    have ih := nlK_nd hs h0 (i := i) (by omega)
    by_cases h : ks.getD i (-1) / 13824 = bef ks i
    · rw [nlK_t h]; exact ih
    · rw [nlK_f h, List.nodup_append]
      refine ⟨ih, by simp, fun a ha b hb e => ?_⟩
      obtain ⟨j, hj, ej⟩ := (nlK_mem h0 (i := i) (by omega)).mp ha
      have eb := List.mem_singleton.mp hb
      apply h
      have hm1 := getD_le hs (i := j) (j := i - 1) (by omega) (by omega)
      have hm2 := getD_mono hs (i := i - 1) (j := i) (by omega) (by omega)
      unfold bef
      rw [if_neg (by omega)]
      omega
theorem mdg_key {k : Int} (h : kOK k) : ∃ n : Nat, n < 19683 ∧ k / 13824 = (n : Int) ∧ ∀ t, mdg (kN n) t = mdg k t := by
  unfold kOK at h
  refine ⟨(k / 13824).toNat, by omega, by omega, fun t => ?_⟩
  unfold mdg kN
  rw [show (13824 * (((k / 13824).toNat : Nat) : Int)) / 13824 = k / 13824 by omega]
theorem sortK_congr {a b : Int} (h : ∀ t, mdg a t = mdg b t) : sortK a = sortK b := by
  have e : mdg a = mdg b := funext h
  unfold sortK trK
  rw [e]
theorem sortK_kN {k : Int} (h : kOK k) : sortK (kN (k / 13824).toNat) = sortK k := by
  obtain ⟨n, _, e, hm⟩ := mdg_key h
  rw [show (k / 13824).toNat = n by omega]
  exact sortK_congr hm
theorem soC_nl {ks : List Int} (hk : ∀ x ∈ ks, kOK x) (t : Int) : ∀ {i : Nat}, i ≤ ks.length → soC ks t i = (((nlK ks i).filter fun x => decide (sortK (kN x.toNat) = t)).length : Int)
  | 0, _ => rfl
  | i + 1, hi => by
    have ih := soC_nl hk t (i := i) (by omega)
    have hki := hk _ (getD_mem (ks := ks) (j := i) (by omega))
    show soC ks t i + _ = _
    by_cases h : ks.getD i (-1) / 13824 = bef ks i
    · rw [if_pos h, nlK_t h, ih]; omega
    · rw [if_neg h, nlK_f h, List.filter_append, List.length_append, ih]
      by_cases g : sortK (ks.getD i (-1)) = t
      · rw [if_pos g, List.filter_cons_of_pos (by rw [sortK_kN hki]; exact decide_eq_true g)]
        simp
      · rw [if_neg g, List.filter_cons_of_neg (by rw [sortK_kN hki, decide_eq_false g]; decide)]
        simp
/-- the MATRICES of a GROUP, as numbers -/
def matQ (ks : List Int) (n : Nat) : Prop := ∃ k ∈ ks, k / 13824 = (n : Int)
theorem matQ_ok {ks : List Int} (h : isG ks) : matN (matQ ks) := by
  have ex : ∀ {n : Nat}, matQ ks n → ∃ k ∈ ks, n < 19683 ∧ ∀ t, mdg (kN n) t = mdg k t := fun {n} ⟨k, hk, e⟩ => by
    obtain ⟨m, hm, em, hd⟩ := mdg_key (h.2.2.1 k hk).1
    obtain rfl : m = n := by omega
    exact ⟨k, hk, hm, hd⟩
  refine ⟨⟨fun n hn => (ex hn).choose_spec.2.1, ⟨u0, h.2.1, by decide⟩, fun a b ha hb => ?_⟩, fun n hn => ?_⟩
  · obtain ⟨k, hk, ha2, hka⟩ := ex ha
    obtain ⟨l, hl, hb2, hlb⟩ := ex hb
    have hkl := h.2.2.2 k hk l hl
    obtain ⟨c, hc, ec, hcd⟩ := mdg_key (h.2.2.1 _ hkl).1
    refine ⟨c, ⟨_, hkl, ec⟩, kN_times hc (fun t ht => ?_)⟩
    rw [hcd t, (times_digits (h.tne hk hl)).2.1 t ht]
    unfold prodD
    rw [hka, hka, hka, hlb, hlb, hlb]
  · obtain ⟨k, hk, _, hkd⟩ := ex hn
    rw [show mdg (kN n) = mdg k from funext hkd]
    exact h.det hk
theorem soC_cnt {ks : List Int} (h : isG ks) (hs : ks.Pairwise (· < ·)) {cs : List Nat} {so : List Int} {N m : Nat} (hnd : cs.Nodup) (hl : cs.length = N) (hin : ∀ n, matQ ks n → ∃ j, j < N ∧ cs.getD j 0 = n) (hso : ∀ j, j < N → sortK (kN (cs.getD j 0)) = so.getD j 0) (hb : ∀ j, j < N → (m.testBit j = true ↔ matQ ks (cs.getD j 0))) (t : Int) : soC ks t ks.length = (cntS so (List.range N) m t : Int) := by
  have hk : ∀ x ∈ ks, kOK x := fun x hx => (h.2.2.1 x hx).1
  have h0 : ∀ j, j < ks.length → 0 ≤ ks.getD j (-1) := fun j hj => (hk _ (getD_mem hj)).1
  rw [soC_nl hk t (Nat.le_refl _)]
  unfold cntS
  have inj : ∀ i j, i < N → j < N → cs.getD i 0 = cs.getD j 0 → i = j := fun i j hi hj e => by
    rw [List.getD_eq_getElem?_getD, List.getD_eq_getElem?_getD, List.getElem?_eq_getElem (by omega), List.getElem?_eq_getElem (by omega)] at e
    have e : cs[i] = cs[j] := e
    rcases Nat.lt_trichotomy i j with g | g | g
    · exact absurd e (List.pairwise_iff_getElem.mp hnd i j (by omega) (by omega) g)
    · exact g
    · exact absurd e.symm (List.pairwise_iff_getElem.mp hnd j i (by omega) (by omega) g)
  -- the same numbers, written twice
  generalize hA : (nlK ks ks.length).filter (fun x => decide (sortK (kN x.toNat) = t)) = A
  generalize hB : (List.range N).filter (fun j => bitB m j && decide (so.getD j 0 = t)) = B
  have hAn : A.Nodup := by rw [← hA]; exact List.Nodup.sublist List.filter_sublist (nlK_nd hs h0 (Nat.le_refl _))
  have hBn : (B.map (fun j => ((cs.getD j 0 : Nat) : Int))).Nodup := by
    rw [← hB]
    show List.Pairwise _ _
    rw [List.pairwise_map]
    have hr : ((List.range N).filter (fun j => bitB m j && decide (so.getD j 0 = t))).Nodup := List.Nodup.sublist List.filter_sublist List.nodup_range
    refine List.Pairwise.imp_of_mem ?_ hr
    intro i j hi hj hne e
    have hi := List.mem_range.mp (List.mem_filter.mp hi).1
    have hj := List.mem_range.mp (List.mem_filter.mp hj).1
    exact hne (inj i j hi hj (by omega))
  have hAB : ∀ x, x ∈ A ↔ x ∈ B.map (fun j => ((cs.getD j 0 : Nat) : Int)) := fun x => by
    rw [← hA, ← hB, List.mem_filter, decide_eq_true_iff, List.mem_map]
    constructor
    · rintro ⟨hx, hs2⟩
      obtain ⟨i, hi, e⟩ := (nlK_mem h0 (Nat.le_refl _)).mp hx
      have hxn : 0 ≤ x := by have := h0 i hi; omega
      obtain ⟨n, rfl⟩ := Int.eq_ofNat_of_zero_le hxn
      have hQ : matQ ks n := ⟨_, getD_mem hi, e⟩
      obtain ⟨j, hj, ej⟩ := hin n hQ
      refine ⟨j, ?_, by rw [ej]⟩
      rw [List.mem_filter, and_t, decide_eq_true_iff, bitB_eq]
      refine ⟨List.mem_range.mpr hj, (hb j hj).mpr (by rw [ej]; exact hQ), ?_⟩
      rw [← hso j hj, ej]
      exact hs2
    · rintro ⟨j, hj, rfl⟩
      rw [List.mem_filter, and_t, decide_eq_true_iff, bitB_eq] at hj
      obtain ⟨hj1, hj2, hj3⟩ := hj
      have hj1 := List.mem_range.mp hj1
      obtain ⟨k, hk2, e⟩ := (hb j hj1).mp hj2
      obtain ⟨i, hi, ei⟩ := mem_getD hk2
      refine ⟨(nlK_mem h0 (Nat.le_refl _)).mpr ⟨i, hi, by rw [ei]; exact e⟩, ?_⟩
      show sortK (kN (cs.getD j 0)) = t
      rw [hso j hj1]
      exact hj3
  have e1 := len_sub A _ hAn (fun x hx => (hAB x).mp hx)
  have e2 := len_sub _ A hBn (fun x hx => (hAB x).mpr hx)
  rw [List.length_map] at e1 e2
  omega
theorem rows_t : ∀ r ∈ row9, ∃ i, i < 32 ∧ st_rows.getD i 0 = 100000 * (1000 * ((r.getD 0 0 : Nat) : Int) + 100 * ((r.getD 1 0 : Nat) : Int) + 10 * ((r.getD 2 0 : Nat) : Int) + ((r.getD 3 0 : Nat) : Int)) + (10000 * ((r.getD 4 0 : Nat) : Int) + 1000 * ((r.getD 5 0 : Nat) : Int) + 100 * ((r.getD 6 0 : Nat) : Int) + 10 * ((r.getD 7 0 : Nat) : Int) + ((r.getD 8 0 : Nat) : Int)) ∧ clsR (1000 * ((r.getD 0 0 : Nat) : Int) + 100 * ((r.getD 1 0 : Nat) : Int) + 10 * ((r.getD 2 0 : Nat) : Int) + ((r.getD 3 0 : Nat) : Int)) (10000 * ((r.getD 4 0 : Nat) : Int) + 1000 * ((r.getD 5 0 : Nat) : Int) + 100 * ((r.getD 6 0 : Nat) : Int) + 10 * ((r.getD 7 0 : Nat) : Int) + ((r.getD 8 0 : Nat) : Int)) = (i : Int) + 1 := by decide +kernel
/-- every GROUP has its CLASS -/
theorem cls_ok {ks : List Int} (h : isG ks) (hs : ks.Pairwise (· < ·)) : ∃ i, i < 32 ∧ st_rows.getD i 0 = rowT ks ks.length ∧ clsR (aT ks ks.length) (bT ks ks.length) = (i : Int) + 1 := by
  obtain ⟨cs, so, N, m, h1, h2, h3, h4, h5, r, hr, e⟩ := cnt_rows (matQ_ok h)
  have hc := soC_cnt h hs h1 h2 h3 h4 h5
  obtain ⟨i, hi, q1, q2⟩ := rows_t r hr
  rw [e] at q1 q2
  have ea : aT ks ks.length = 1000 * (((cnt9 so (List.range N) m).getD 0 0 : Nat) : Int) + 100 * (((cnt9 so (List.range N) m).getD 1 0 : Nat) : Int) + 10 * (((cnt9 so (List.range N) m).getD 2 0 : Nat) : Int) + (((cnt9 so (List.range N) m).getD 3 0 : Nat) : Int) := by
    unfold aT
    rw [hc 2, hc 3, hc 4, hc 6]
    rfl
  have eb : bT ks ks.length = 10000 * (((cnt9 so (List.range N) m).getD 4 0 : Nat) : Int) + 1000 * (((cnt9 so (List.range N) m).getD 5 0 : Nat) : Int) + 100 * (((cnt9 so (List.range N) m).getD 6 0 : Nat) : Int) + 10 * (((cnt9 so (List.range N) m).getD 7 0 : Nat) : Int) + (((cnt9 so (List.range N) m).getD 8 0 : Nat) : Int) := by
    unfold bT
    rw [hc (-1), hc (-2), hc (-3), hc (-4), hc (-6)]
    rfl
  refine ⟨i, hi, ?_, ?_⟩
  · rw [row_ab, ea, eb]; exact q1
  · rw [ea, eb]; exact q2
theorem cls_B : ClsB := fun ks h hs _ => by
  obtain ⟨i, hi, e, _⟩ := cls_ok h hs
  have := rows_rng i hi
  rw [e] at this
  omega
theorem rows_inj : ∀ i, i < 32 → ∀ j, j < 32 → st_rows.getD i 0 = st_rows.getD j 0 → i = j := by decide +kernel
theorem cls_eq {ks : List Int} (h : isG ks) (hs : ks.Pairwise (· < ·)) {z : Int} (hz : clsF (rowT ks ks.length) z) : z = clsR (aT ks ks.length) (bT ks ks.length) := by
  obtain ⟨i, hi, e1, e2⟩ := cls_ok h hs
  rcases hz with ⟨j, hj, q1, q2, _⟩ | ⟨_, q⟩
  · rw [e2, q2, rows_inj j hj i hi (q1.trans e1.symm)]
  · exact absurd e1 (q i hi)
