/-! LETTER, and what is left. -/
theorem cen_run {ks : List Int} (hG : isG ks) (hs : ks.Pairwise (· < ·)) {i0 : Nat} (hi : i0 < ks.length) (hu : ks.getD i0 (-1) = u0) : ∃ c : Nat, 1 ≤ c ∧ i0 + c ≤ ks.length ∧ cenT ks ks.length = (c : Int) ∧ ∀ j, j < ks.length → (ks.getD j (-1) / 13824 = 16484 ↔ i0 ≤ j ∧ j < i0 + c) := by
  have u9 : u0 = 227874816 := rfl
  rcases max_ex (fun j => ks.getD j (-1) / 13824 = 16484) ks.length with ⟨v, hv, hv2, hmax⟩ | hno
  · have hiv : i0 ≤ v := hmax i0 hi (by rw [hu]; decide)
    have hrun : ∀ j, j < ks.length → (ks.getD j (-1) / 13824 = 16484 ↔ i0 ≤ j ∧ j < i0 + (v + 1 - i0)) := fun j hj => by
      constructor
      · intro q
        refine ⟨?_, by have := hmax j hj q; omega⟩
        apply Classical.byContradiction
        intro g
        have := getD_mono hs (i := j) (j := i0) (by omega) hi
        rw [hu] at this
        omega
      · rintro ⟨g1, g2⟩
        have a1 := getD_le hs (i := i0) (j := j) g1 hj
        have a2 := getD_le hs (i := j) (j := v) (by omega) hv
        rw [hu] at a1
        omega
    refine ⟨v + 1 - i0, by omega, by omega, ?_, hrun⟩
    have key : ∀ n, n ≤ ks.length → cenT ks n = if n ≤ i0 then 0 else if n ≤ v + 1 then (n : Int) - (i0 : Int) else (v : Int) + 1 - (i0 : Int) := by
      intro n
      induction n with
      | zero => intro _; rw [if_pos (Nat.zero_le _)]; rfl
      | succ n ih =>
        intro hn
        show cenT ks n + _ = _
        rw [ih (by omega)]
        by_cases g : ks.getD n (-1) / 13824 = 16484
        · rw [if_pos g]
          obtain ⟨g1, g2⟩ := (hrun n (by omega)).mp g
          rw [if_neg (show ¬ n + 1 ≤ i0 by omega), if_pos (show n + 1 ≤ v + 1 by omega)]
          by_cases g3 : n ≤ i0
          · rw [if_pos g3]; omega
          · rw [if_neg g3, if_pos (by omega)]; omega
        · rw [if_neg g]
          have g2 : ¬ (i0 ≤ n ∧ n < i0 + (v + 1 - i0)) := fun q => g ((hrun n (by omega)).mpr q)
          by_cases g3 : n + 1 ≤ i0
          · rw [if_pos g3, if_pos (by omega)]; rfl
          · rw [if_neg g3, if_neg (show ¬ n + 1 ≤ v + 1 by omega), if_neg (by omega)]
            by_cases g4 : n ≤ v + 1
            · rw [if_pos g4]; omega
            · rw [if_neg g4]; omega
    rw [key ks.length (Nat.le_refl _), if_neg (by omega)]
    by_cases g : ks.length ≤ v + 1
    · rw [if_pos g]; omega
    · rw [if_neg g]; omega
  · exact absurd (by rw [hu]; decide) (hno i0 hi)
theorem letter_eq {ks : List Int} (hG : isG ks) (hs : ks.Pairwise (· < ·)) {i : Int} (hi : lix ks u0 i) : letK ks i (cenT ks ks.length) = letR ks (cenT ks ks.length) := by
  have u9 : u0 = 227874816 := rfl
  obtain ⟨i0, hi0, hu, rfl⟩ : ∃ i0 : Nat, i0 < ks.length ∧ ks.getD i0 (-1) = u0 ∧ i = (i0 : Int) := by
    rcases hi with ⟨_, a, b, c⟩ | ⟨a, _⟩
    · exact ⟨i.toNat, by omega, c, by omega⟩
    · exact absurd hG.2.1 a
  obtain ⟨c, hc1, hc2, hc3, hrun⟩ := cen_run hG hs hi0 hu
  rw [hc3]
  have hm : ∀ s : Int, 0 < s → s < 13824 → (mI ks s = 0 ↔ ∀ t : Nat, 1 ≤ t → t < c → ks.getD (i0 + t) (-1) - u0 ≠ s) := fun s h0 h1 => by
    unfold mI
    constructor
    · intro q t ht1 ht2 e
      rw [if_pos (by rw [show u0 + s = ks.getD (i0 + t) (-1) by omega]; exact getD_mem (by omega))] at q
      omega
    · intro q
      rw [if_neg (fun hmem => ?_)]
      obtain ⟨j, hj, e⟩ := mem_getD hmem
      obtain ⟨g1, g2⟩ := (hrun j hj).mp (by omega)
      have : j ≠ i0 := fun e2 => by rw [e2, hu] at e; omega
      exact q (j - i0) (by omega) (by omega) (by rw [show i0 + (j - i0) = j by omega]; omega)
  have hl : ∀ t : Nat, t < c → lat ks ((i0 : Int) + (t : Int)) = ks.getD (i0 + t) (-1) := fun t ht => by
    rw [(lat_in (by omega) (by omega)).1]
    congr 1
  have hord : ∀ t s : Nat, t < s → s < c → ks.getD (i0 + t) (-1) < ks.getD (i0 + s) (-1) := fun t s h1 h2 => getD_mono hs (by omega) (by omega)
  unfold letK letR
  by_cases e1 : (c : Int) = 1
  · rw [if_pos e1, if_pos e1]
  rw [if_neg e1, if_neg e1]
  by_cases e2 : (c : Int) = 2
  · rw [if_pos e2, if_pos e2]
    have l1 := hl 1 (by omega)
    rw [show (i0 : Int) + 1 = (i0 : Int) + ((1 : Nat) : Int) from rfl, l1]
    have hm2 : ∀ s : Int, 0 < s → s < 13824 → (mI ks s = 0 ↔ ks.getD (i0 + 1) (-1) - u0 ≠ s) := fun s h0 h1 => by
      rw [hm s h0 h1]
      constructor
      · exact fun q => q 1 (by omega) (by omega)
      · intro q t a b
        rw [show t = 1 by omega]
        exact q
    generalize ks.getD (i0 + 1) (-1) - u0 = s1 at hm2
    have m1 := hm2 300 (by decide) (by decide)
    have m2 := hm2 6924 (by decide) (by decide)
    have m3 := hm2 7200 (by decide) (by decide)
    have m4 := hm2 7212 (by decide) (by decide)
    unfold let2
    by_cases q1 : s1 = 300
    · rw [if_pos q1, if_neg (fun q => (m1.mp q) q1)]
    · rw [if_neg q1, if_pos (m1.mpr q1)]
      by_cases q2 : s1 = 6924
      · rw [if_pos q2, if_neg (fun q => (m2.mp q) q2)]
      · rw [if_neg q2, if_pos (m2.mpr q2)]
        by_cases q3 : s1 = 7200
        · rw [if_pos q3, if_neg (fun q => (m3.mp q) q3)]
        · rw [if_neg q3, if_pos (m3.mpr q3)]
          by_cases q4 : s1 = 7212
          · rw [if_pos q4, if_neg (fun q => (m4.mp q) q4)]
          · rw [if_neg q4, if_pos (m4.mpr q4)]
  rw [if_neg e2, if_neg e2]
  by_cases e3 : (c : Int) = 3
  · rw [if_pos e3, if_neg (show ¬ (c : Int) = 4 by omega), if_pos e3]
    rw [show (i0 : Int) + 1 = (i0 : Int) + ((1 : Nat) : Int) from rfl, show (i0 : Int) + 2 = (i0 : Int) + ((2 : Nat) : Int) from rfl, hl 1 (by omega), hl 2 (by omega)]
    have o := hord 1 2 (by omega) (by omega)
    have hm3 : ∀ s : Int, 0 < s → s < 13824 → (mI ks s = 0 ↔ ks.getD (i0 + 1) (-1) - u0 ≠ s ∧ ks.getD (i0 + 2) (-1) - u0 ≠ s) := fun s h0 h1 => by
      rw [hm s h0 h1]
      constructor
      · exact fun q => ⟨q 1 (by omega) (by omega), q 2 (by omega) (by omega)⟩
      · intro q t a b
        rcases (show t = 1 ∨ t = 2 by omega) with rfl | rfl
        · exact q.1
        · exact q.2
    have o2 : ks.getD (i0 + 1) (-1) - u0 < ks.getD (i0 + 2) (-1) - u0 := by omega
    generalize ks.getD (i0 + 1) (-1) - u0 = s1 at hm3 o2
    generalize ks.getD (i0 + 2) (-1) - u0 = s2 at hm3 o2
    have m1 := hm3 5008 (by decide) (by decide)
    have m2 := hm3 9416 (by decide) (by decide)
    have m3 := hm3 5000 (by decide) (by decide)
    have m4 := hm3 9424 (by decide) (by decide)
    by_cases q1 : s1 = 5008 ∧ s2 = 9416
    · rw [if_pos q1, if_neg (fun q => (m1.mp q).1 q1.1), if_neg (fun q => (m2.mp q).2 q1.2)]
    · rw [if_neg q1]
      by_cases q2 : s1 = 5000 ∧ s2 = 9424
      · rw [if_pos q2, if_pos (m1.mpr (by omega)), if_neg (fun q => (m3.mp q).1 q2.1), if_neg (fun q => (m4.mp q).2 q2.2)]
      · rw [if_neg q2]
        have key : (if mI ks 5000 = 0 then (8 : Int) else if mI ks 9424 = 0 then 8 else 7) = 8 := by
          by_cases r : mI ks 5000 = 0
          · rw [if_pos r]
          · rw [if_neg r, if_pos (m4.mpr (by
              have : ¬ (s1 ≠ 5000 ∧ s2 ≠ 5000) := fun z => r (m3.mpr z)
              omega))]
        by_cases r : mI ks 5008 = 0
        · rw [if_pos r, key]
        · rw [if_neg r, if_pos (m2.mpr (by
            have : ¬ (s1 ≠ 5008 ∧ s2 ≠ 5008) := fun z => r (m1.mpr z)
            omega)), key]
  rw [if_neg e3]
  by_cases e4 : (c : Int) = 4
  · rw [if_pos e4, if_pos e4]
    rw [show (i0 : Int) + 1 = (i0 : Int) + ((1 : Nat) : Int) from rfl, show (i0 : Int) + 2 = (i0 : Int) + ((2 : Nat) : Int) from rfl, show (i0 : Int) + 3 = (i0 : Int) + ((3 : Nat) : Int) from rfl, hl 1 (by omega), hl 2 (by omega), hl 3 (by omega)]
    have o := hord 1 2 (by omega) (by omega)
    have o' := hord 2 3 (by omega) (by omega)
    have hm3 : ∀ s : Int, 0 < s → s < 13824 → (mI ks s = 0 ↔ ks.getD (i0 + 1) (-1) - u0 ≠ s ∧ ks.getD (i0 + 2) (-1) - u0 ≠ s ∧ ks.getD (i0 + 3) (-1) - u0 ≠ s) := fun s h0 h1 => by
      rw [hm s h0 h1]
      constructor
      · exact fun q => ⟨q 1 (by omega) (by omega), q 2 (by omega) (by omega), q 3 (by omega) (by omega)⟩
      · intro q t a b
        rcases (show t = 1 ∨ t = 2 ∨ t = 3 by omega) with rfl | rfl | rfl
        · exact q.1
        · exact q.2.1
        · exact q.2.2
    have o2 : ks.getD (i0 + 1) (-1) - u0 < ks.getD (i0 + 2) (-1) - u0 ∧ ks.getD (i0 + 2) (-1) - u0 < ks.getD (i0 + 3) (-1) - u0 := by omega
    generalize ks.getD (i0 + 1) (-1) - u0 = s1 at hm3 o2
    generalize ks.getD (i0 + 2) (-1) - u0 = s2 at hm3 o2
    generalize ks.getD (i0 + 3) (-1) - u0 = s3 at hm3 o2
    have m1 := hm3 300 (by decide) (by decide)
    have m2 := hm3 6924 (by decide) (by decide)
    have m3 := hm3 7200 (by decide) (by decide)
    by_cases q1 : s1 = 300 ∧ s2 = 6924 ∧ s3 = 7200
    · rw [if_pos q1, if_neg (fun q => (m1.mp q).1 q1.1), if_neg (fun q => (m2.mp q).2.1 q1.2.1), if_neg (fun q => (m3.mp q).2.2 q1.2.2)]
    · rw [if_neg q1]
      by_cases r1 : mI ks 300 = 0
      · rw [if_pos r1]
      · rw [if_neg r1]
        by_cases r2 : mI ks 6924 = 0
        · rw [if_pos r2]
        · rw [if_neg r2, if_pos (m3.mpr (by
            have z1 : ¬ (s1 ≠ 300 ∧ s2 ≠ 300 ∧ s3 ≠ 300) := fun z => r1 (m1.mpr z)
            have z2 : ¬ (s1 ≠ 6924 ∧ s2 ≠ 6924 ∧ s3 ≠ 6924) := fun z => r2 (m2.mpr z)
            omega))]
  rw [if_neg e4, if_neg e4, if_neg e3]
theorem halv_R {ks : List Int} (hg : gkM ks) {co : Nat → Int} {bb : Nat} (h : halvB ks co bb) : hvR ks (2 ^ bb - 1) (fun k => hpar co (revB (k + 1) bb)) := by
  obtain ⟨K, h1, h2, h3, h4⟩ := h
  exact hv_class hg.1 hg.2.1 h1 h2 h3 h4 h1.2.2.2
theorem pow_int (bb : Nat) : ((2 ^ bb : Nat) : Int) - 1 = ((2 ^ bb - 1 : Nat) : Int) := by
  have := Nat.two_pow_pos bb
  omega
theorem agr_about {kss x w z1 z2} (hk : kssOK kss) (h1 : sAbout kss x w z1) (h2 : sAboutR kss x w z2) : z1 = z2 := by
  rcases h1 with ⟨a, a1⟩ | ⟨ks, a, a1⟩ <;> rcases h2 with ⟨b, b1⟩ | ⟨ks2, b, b1⟩
  · rw [a1, b1]
  · exact absurd a b.not
  · exact absurd b a.not
  · obtain rfl := a.uniq b
    have hg := a.ok hk
    rcases a1 with ⟨w1, e⟩ | ⟨w1, e⟩ | ⟨w1, e⟩ | ⟨w1, i, hi, e⟩ | ⟨w1, e⟩ | ⟨w1, e⟩ | ⟨w1, co, bb, hb, e⟩ | ⟨w1, e⟩ <;> rcases b1 with ⟨w2, f⟩ | ⟨w2, f⟩ | ⟨w2, f⟩ | ⟨w2, f⟩ | ⟨w2, f⟩ | ⟨w2, f⟩ | ⟨w2, h9, B, hB, f⟩ | ⟨w2, f⟩ <;> first | (exfalso; clear e f; omega) | exact e.trans f.symm | skip
    · rw [e, f]; exact letter_eq hg.1 hg.2.1 hi
    · rw [f]; exact cls_eq hg.1 hg.2.1 e
    · rw [e, f, pow_int, ((halv_R hg hb).uniq hB).1]
theorem agr_half {kss x k z1 z2 k1 k2} (hk : kssOK kss) (h1 : sHalf kss x k z1 k1) (h2 : sHalfR kss x k z2 k2) : z1 = z2 ∧ k1 = k2 := by
  rcases h1 with ⟨a, a1, a2⟩ | ⟨ks, co, bb, a, a1, a2⟩ <;> rcases h2 with ⟨b, b1, b2⟩ | ⟨ks2, h9, B, b, b1, b2⟩
  · exact ⟨by rw [a1, b1], by rw [a2, b2]⟩
  · exact absurd a b.not
  · exact absurd b a.not
  · obtain rfl := a.uniq b
    have hg := a.ok hk
    obtain ⟨e1, e2⟩ := (halv_R hg a1).uniq b1
    have e3 : ((2 ^ bb : Nat) : Int) - 1 = (h9 : Int) := by rw [pow_int, e1]
    rw [e3] at a2
    rcases a2 with ⟨q, q1, q2⟩ | ⟨q, q1, q2⟩ <;> rcases b2 with ⟨r, r1, r2⟩ | ⟨r, r1, r2⟩
    · exact ⟨by rw [q1, r1], by rw [q2, r2]⟩
    · exact absurd ⟨r, r1⟩ q
    · exact absurd ⟨q, q1⟩ r
    · rw [selT_congr (q := B k.toNat) (fun i hi => e2 k.toNat (by omega) i hi)] at q2
      exact q2.uniq r2
