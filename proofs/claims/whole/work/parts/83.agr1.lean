/-! HALVES: what the class has are all, in their order. -/
theorem revB_bit (m : Nat) : ∀ {b i : Nat}, i < b → (revB m b).testBit i = m.testBit (b - 1 - i)
  | 0, i, h => absurd h (Nat.not_lt_zero _)
  | b + 1, i, h => by
    have e : revB m (b + 1) = 2 * revB m b + m / 2 ^ b % 2 := rfl
    have hm : m / 2 ^ b % 2 < 2 := Nat.mod_lt _ (by decide)
    cases i with
    | zero =>
      rw [e, Nat.testBit_zero, Nat.testBit_eq_decide_div_mod_eq, show b + 1 - 1 - 0 = b by omega]
      exact decide_eq_decide.mpr (by omega)
    | succ i =>
      rw [e, Nat.testBit_succ, show (2 * revB m b + m / 2 ^ b % 2) / 2 = revB m b by omega, revB_bit m (by omega), show b + 1 - 1 - (i + 1) = b - 1 - i by omega]
theorem pc_two : ∀ t, t < 7 → pcN (2 ^ t) = 1 := by decide
theorem and_two {t m : Nat} : 2 ^ t &&& m = if m.testBit t = true then 2 ^ t else 0 := by
  refine Nat.eq_of_testBit_eq fun i => ?_
  rw [Nat.testBit_and, Nat.testBit_two_pow]
  by_cases e : t = i
  · subst e
    cases h : m.testBit t with
    | true => simp
    | false => simp
  · rw [decide_eq_false e, Bool.false_and]
    split
    · rw [Nat.testBit_two_pow, decide_eq_false e]
    · rw [Nat.zero_testBit]
section HVC
variable {ks K : List Int} {co : Nat → Int} {bb : Nat}
theorem co_lt (hH : HIv ks K co bb) (hd : ∀ x, x < ks.length → co x ≠ -1) {x : Nat} (hx : x < ks.length) : 0 ≤ co x ∧ (co x).toNat < 2 ^ bb := by
  rcases hH.1 x hx with q | q
  · exact absurd q (hd x hx)
  · exact q
theorem hpar_chi (hH : HIv ks K co bb) (hd : ∀ x, x < ks.length → co x ≠ -1) (hb : bb < 8) {m : Nat} (hm : m < 2 ^ bb) : chiB ks (hpar co m) := fun x y z hx hy hz e => by
  have h128 := pow_le128 hb
  have h1 := hH.2.2.1 x y z hx hy hz (hd x hx) (hd y hy) e
  have hx2 := co_lt hH hd hx
  have hy2 := co_lt hH hd hy
  have h2 := pcN_xor (a := (co x).toNat) (b := (co y).toNat) (m := m) (by omega) (by omega) (by omega)
  unfold hpar
  rw [h1, show ((((co x).toNat ^^^ (co y).toNat : Nat) : Int)).toNat = (co x).toNat ^^^ (co y).toNat from rfl, h2]
  omega
theorem hpar_e (hb : bb < 8) {m t e : Nat} (ht : t < bb) (he : co e = ((2 ^ t : Nat) : Int)) : hpar co m e ↔ m.testBit t = false := by
  unfold hpar
  rw [he, show (((2 ^ t : Nat) : Int)).toNat = 2 ^ t from rfl, and_two]
  cases h : m.testBit t with
  | true => rw [if_pos rfl, pc_two t (by omega)]; simp
  | false => rw [if_neg (by simp)]; simp [pcN]
theorem hpar_lt {m1 m2 t j : Nat} (hj : (co j).toNat < 2 ^ t) (h : ∀ i, i < t → m1.testBit i = m2.testBit i) : hpar co m1 j ↔ hpar co m2 j := by
  unfold hpar
  have e : (co j).toNat &&& m1 = (co j).toNat &&& m2 := by
    refine Nat.eq_of_testBit_eq fun i => ?_
    rw [Nat.testBit_and, Nat.testBit_and]
    rcases Nat.lt_or_ge i t with g | g
    · rw [h i g]
    · rw [Nat.testBit_lt_two_pow (Nat.lt_of_lt_of_le hj (Nat.pow_le_pow_right (by decide) g))]
      rfl
  rw [e]
/-- all halves leave the squares -/
theorem chi_K (hG : isG ks) {S : Nat → Prop} (hS : chiB ks S) (hmin : ∃ gs : List Int, (∀ a ∈ gs, ∃ y ∈ ks, a = timesK y y) ∧ ∀ x ∈ K, Reach gs x) : ∀ x, x < ks.length → ks.getD x (-1) ∈ K → S x := by
  obtain ⟨gs, h1, h2⟩ := hmin
  have key : ∀ y ∈ K, y ∈ ks ∧ ∀ x, x < ks.length → ks.getD x (-1) = y → S x := by
    intro y hy
    refine h2 y hy (fun y => y ∈ ks ∧ ∀ x, x < ks.length → ks.getD x (-1) = y → S x) ⟨hG.2.1, fun x hx e => hS.u hG hx e⟩ ?_
    intro y a hy ha hn
    obtain ⟨w, hw, rfl⟩ := h1 a ha
    have hww := hG.2.2.2 w hw w hw
    refine ⟨hG.2.2.2 y hy.1 _ hww, fun x hx e => ?_⟩
    obtain ⟨yi, hyi, ey⟩ := mem_getD hy.1
    obtain ⟨wi, hwi, ew⟩ := mem_getD hw
    obtain ⟨ai, hai, ea⟩ := mem_getD hww
    have q1 := hS wi wi ai hwi hwi hai (by rw [ew, ea])
    have q2 := hS yi ai x hyi hai hx (by rw [ey, ea, e])
    exact q2.mpr ⟨fun _ => q1.mpr Iff.rfl, fun _ => hy.2 yi hyi ey⟩
  intro x hx hk
  exact (key _ hk).2 x hx rfl
theorem chi_D {S T : Nat → Prop} (hS : chiB ks S) (hT : chiB ks T) : chiB ks (fun x => (S x ↔ T x)) := fun x y z hx hy hz e => by
  have h1 := hS x y z hx hy hz e
  have h2 := hT x y z hx hy hz e
  show (S z ↔ T z) ↔ ((S x ↔ T x) ↔ (S y ↔ T y))
  rw [h1, h2]
  by_cases a : S x <;> by_cases b : S y <;> by_cases c : T x <;> by_cases d : T y <;> simp [a, b, c, d]
theorem chi_all (hG : isG ks) (hs : ks.Pairwise (· < ·)) (hq : sqG ks K) (hH : HIv ks K co bb) (hd : ∀ x, x < ks.length → co x ≠ -1) {D : Nat → Prop} (hD : chiB ks D) (hK : ∀ x, x < ks.length → ks.getD x (-1) ∈ K → D x) (hE : ∀ t e, t < bb → e < ks.length → co e = ((2 ^ t : Nat) : Int) → D e) : ∀ x, x < ks.length → D x := by
  have key : ∀ c : Nat, ∀ x, x < ks.length → co x = (c : Int) → D x := by
    intro c
    induction c using Nat.strongRecOn with
    | _ c ih =>
      intro x hx hc
      by_cases h0 : c = 0
      · subst h0
        exact hK x hx ((hH.2.1 x hx).mp hc)
      · have hcl := (co_lt hH hd hx).2
        rw [hc] at hcl
        have hcl : c < 2 ^ bb := hcl
        obtain ⟨t, ht1, ht2, ht3, -⟩ := top_bit bb c 0 hcl (Nat.two_pow_pos _) (by omega)
        have hct : c < 2 ^ (t + 1) := by
          apply Nat.lt_pow_two_of_testBit
          intro i hi
          rcases Nat.lt_or_ge i bb with g | g
          · rw [ht2 i (by omega) g, Nat.zero_testBit]
          · exact Nat.testBit_lt_two_pow (Nat.lt_of_lt_of_le hcl (Nat.pow_le_pow_right (by decide) g))
        have hge : 2 ^ t ≤ c := Nat.ge_two_pow_of_testBit ht3
        have hps : 2 ^ (t + 1) = 2 * 2 ^ t := by rw [Nat.pow_succ]; omega
        have hpb : 2 ^ t < 2 ^ bb := Nat.pow_lt_pow_right (by decide) ht1
        obtain ⟨y, hy, hyc⟩ := hH.2.2.2.1 (c - 2 ^ t) (by omega)
        obtain ⟨e, he, hec, -⟩ := hH.2.2.2.2 t ht1
        have hDy := ih (c - 2 ^ t) (by have := Nat.two_pow_pos t; omega) y hy hyc
        obtain ⟨z1, z2⟩ := tix_ok hG he hy
        have hDz : D (tix ks e y) := (hD e y _ he hy z1 z2.symm).mpr ⟨fun _ => hDy, fun _ => hE t e ht1 he hec⟩
        have hzc : co (tix ks e y) = (c : Int) := by
          rw [hH.2.2.1 e y _ he hy z1 (hd e he) (hd y hy) z2.symm, hec, hyc]
          show ((2 ^ t ^^^ (c - 2 ^ t) : Nat) : Int) = (c : Int)
          rw [Nat.xor_comm, ← add_xor (show c - 2 ^ t < 2 ^ t by omega)]
          omega
        obtain ⟨zi, hzi, f1, f2⟩ := hG.inv (getD_mem z1)
        obtain ⟨i, hi, ei⟩ := mem_getD hzi
        have hic : co i = (c : Int) := by rw [← hzc]; exact hH.inv hG hq z1 hi (hd _ z1) (by rw [ei]; exact f1)
        obtain ⟨w1, w2⟩ := tix_ok hG hx hi
        have hwc : co (tix ks x i) = 0 := by
          rw [hH.2.2.1 x i _ hx hi w1 (hd x hx) (hd i hi) w2.symm, hc, hic]
          show ((c ^^^ c : Nat) : Int) = 0
          rw [Nat.xor_self]
          rfl
        have hDw := hK _ w1 ((hH.2.1 _ w1).mp hwc)
        obtain ⟨u, hu, eu⟩ := mem_getD hG.2.1
        have hDu := (hD (tix ks e y) i u z1 hi hu (by rw [ei, f1, eu])).mp (hD.u hG hu eu)
        have hDi := hDu.mp hDz
        exact ((hD x i _ hx hi w1 w2.symm).mp hDw).mpr hDi
  intro x hx
  have := co_lt hH hd hx
  exact key (co x).toNat x hx (by omega)
theorem hv_class (hG : isG ks) (hs : ks.Pairwise (· < ·)) (hq : sqG ks K) (hH : HIv ks K co bb) (hd : ∀ x, x < ks.length → co x ≠ -1) (hb : bb < 8) (hmin : ∃ gs : List Int, (∀ a ∈ gs, ∃ y ∈ ks, a = timesK y y) ∧ ∀ x ∈ K, Reach gs x) : hvR ks (2 ^ bb - 1) (fun k => hpar co (revB (k + 1) bb)) := by
  have h128 := pow_le128 hb
  have hpos := Nat.two_pow_pos bb
  refine ⟨by omega, fun k hk => ⟨hpar_chi hH hd hb (revB_lt _ _), ?_⟩, fun k1 k2 h12 h2 => ?_, fun S hS hx => ?_⟩
  · obtain ⟨i, hi, hne⟩ := bits_ne (a := k + 1) (b := 0) (m := bb) (by omega) hpos (by omega)
    rw [Nat.zero_testBit] at hne
    have ht : bb - 1 - i < bb := by omega
    obtain ⟨e, he, hec, -⟩ := hH.2.2.2.2 (bb - 1 - i) ht
    refine ⟨e, he, fun q => hne ?_⟩
    have q := (hpar_e hb ht hec).mp q
    rw [revB_bit _ ht, show bb - 1 - (bb - 1 - i) = i by omega] at q
    exact q
  · obtain ⟨s, hs1, hs2, hs3, hs4⟩ := top_bit bb (k2 + 1) (k1 + 1) (by omega) (by omega) (by omega)
    have ht : bb - 1 - s < bb := by omega
    obtain ⟨e, he, hec, hbef⟩ := hH.2.2.2.2 (bb - 1 - s) ht
    have b1 : (revB (k1 + 1) bb).testBit (bb - 1 - s) = false := by rw [revB_bit _ ht, show bb - 1 - (bb - 1 - s) = s by omega]; exact hs4
    have b2 : (revB (k2 + 1) bb).testBit (bb - 1 - s) = true := by rw [revB_bit _ ht, show bb - 1 - (bb - 1 - s) = s by omega]; exact hs3
    refine ⟨e, he, fun j hj => ?_, (hpar_e hb ht hec).mpr b1, fun q => ?_⟩
    · refine hpar_lt (hbef j hj).2 (fun i hi => ?_)
      rw [revB_bit _ (by omega), revB_bit _ (by omega)]
      exact (hs2 _ (by omega) (by omega)).symm
    · have := (hpar_e hb ht hec).mp q
      rw [b2] at this
      cases this
  · obtain ⟨m, hm, hbit⟩ := bits_ex bb (fun t => !@decide (∃ e, e < ks.length ∧ co e = ((2 ^ t : Nat) : Int) ∧ S e) (Classical.propDecidable _))
    have hT := hpar_chi hH hd hb hm
    have same : ∀ a b, a < ks.length → b < ks.length → co a = co b → (S a ↔ S b) := fun a b ha hb2 e => by
      obtain ⟨bi, hbi, f1, f2⟩ := hG.inv (getD_mem hb2)
      obtain ⟨i, hi, ei⟩ := mem_getD hbi
      have hic : co i = co b := hH.inv hG hq hb2 hi (hd _ hb2) (by rw [ei]; exact f1)
      obtain ⟨w1, w2⟩ := tix_ok hG ha hi
      have hwc : co (tix ks a i) = 0 := by
        rw [hH.2.2.1 a i _ ha hi w1 (hd a ha) (hd i hi) w2.symm, e, hic, Nat.xor_self]
        rfl
      have hSw := chi_K hG hS hmin _ w1 ((hH.2.1 _ w1).mp hwc)
      obtain ⟨u, hu, eu⟩ := mem_getD hG.2.1
      have hSu := (hS b i u hb2 hi hu (by rw [ei, f1, eu])).mp (hS.u hG hu eu)
      exact ((hS a i _ ha hi w1 w2.symm).mp hSw).trans hSu.symm
    have hall := chi_all hG hs hq hH hd (chi_D hS hT) (fun x hx hk => ⟨fun _ => by
        have : co x = 0 := (hH.2.1 x hx).mpr hk
        show pcN ((co x).toNat &&& m) % 2 = 0
        rw [this]
        show pcN (0 &&& m) % 2 = 0
        rw [Nat.zero_and]
        rfl, fun _ => chi_K hG hS hmin x hx hk⟩) (fun t e ht he hec => by
        show S e ↔ hpar co m e
        rw [hpar_e hb ht hec, hbit t ht, Bool.not_eq_false']
        refine Iff.trans ?_ (@decide_eq_true_iff _ (Classical.propDecidable _)).symm
        constructor
        · exact fun q => ⟨e, he, hec, q⟩
        · rintro ⟨e2, he2, hec2, q⟩
          exact (same e e2 he he2 (hec.trans hec2.symm)).mpr q)
    -- m is the reverse of some number that is not 0
    have hm0 : m ≠ 0 := fun e => by
      obtain ⟨x, hx1, hx2⟩ := hx
      refine hx2 ((hall x hx1).mpr ?_)
      show pcN ((co x).toNat &&& m) % 2 = 0
      rw [e, Nat.and_zero]
      rfl
    have hr : revB (revB m bb) bb = m := by
      refine Nat.eq_of_testBit_eq fun i => ?_
      rcases Nat.lt_or_ge i bb with g | g
      · rw [revB_bit _ g, revB_bit _ (by omega), show bb - 1 - (bb - 1 - i) = i by omega]
      · rw [Nat.testBit_lt_two_pow (Nat.lt_of_lt_of_le (revB_lt _ _) (Nat.pow_le_pow_right (by decide) g)), Nat.testBit_lt_two_pow (Nat.lt_of_lt_of_le hm (Nat.pow_le_pow_right (by decide) g))]
    have hr0 : revB m bb ≠ 0 := fun e => by
      obtain ⟨i, hi, hne⟩ := bits_ne (a := m) (b := 0) (m := bb) hm hpos hm0
      rw [Nat.zero_testBit] at hne
      have q := revB_bit m (show bb - 1 - i < bb by omega)
      rw [e, Nat.zero_testBit, show bb - 1 - (bb - 1 - i) = i by omega] at q
      exact hne q.symm
    have hrl := revB_lt m bb
    refine ⟨revB m bb - 1, by omega, fun i hi => ?_⟩
    show S i ↔ hpar co (revB (revB m bb - 1 + 1) bb) i
    rw [show revB m bb - 1 + 1 = revB m bb by omega, hr]
    exact hall i hi
end HVC
