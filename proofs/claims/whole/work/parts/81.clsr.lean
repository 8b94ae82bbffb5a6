/-! CLASS: every GROUP has one of the 32 rows. -/
theorem mulC_of {a b c : Nat} (ha : a < 19683) (hb : b < 19683) (hc : c < 19683) (e : timesK (kN a) (kN b) = kN c) : mulC a b = c := by
  unfold mulC
  rw [rimg_ok ha hb hc (i := 0) (by omega) e, rimg_ok ha hb hc (i := 1) (by omega) e, rimg_ok ha hb hc (i := 2) (by omega) e, cod_rw]
theorem iso_all {g : Nat × List Nat} (h : g ∈ CSm) : isoC g = true := by
  have e : CSm = CSm.take 10 ++ ((CSm.drop 10).take 10 ++ ((CSm.drop 20).take 10 ++ CSm.drop 30)) := by
    have e1 : CSm.drop 20 = (CSm.drop 10).drop 10 := by rw [List.drop_drop]
    have e2 : CSm.drop 30 = (CSm.drop 20).drop 10 := by rw [List.drop_drop]
    rw [e2, List.take_append_drop, e1, List.take_append_drop, List.take_append_drop]
  rw [e] at h
  rcases List.mem_append.mp h with q | q
  · exact List.all_eq_true.mp iso_0 g q
  · rcases List.mem_append.mp q with q | q
    · exact List.all_eq_true.mp iso_1 g q
    · rcases List.mem_append.mp q with q | q
      · exact List.all_eq_true.mp iso_2 g q
      · exact List.all_eq_true.mp iso_3 g q
theorem up_ok : ∀ {k n : Nat} {f : Nat → Bool}, up k n f = true → ∀ i, n ≤ i → i < n + k → f i = true
  | 0, n, f, _, i, h1, h2 => by omega
  | k + 1, n, f, h, i, h1, h2 => by
    unfold up at h
    rw [and_t, frc_eq] at h
    rcases Nat.lt_or_ge n i with g | g
    · exact up_ok h.2 i g (by omega)
    · rw [show i = n by omega]
      exact h.1
theorem zip_len : GMs.length = CSm.length := by decide +kernel
theorem cs_0 : CSm.all (fun g => Nat.beq (g.2.getD 0 0) 16484 && (Nat.ble g.1 1 && decide g.2.Nodup)) = true := by decide +kernel
/-- all rotations of a closed set stand in one of the 39 -/
theorem rot_cs {Q : Nat → Prop} (h : rotN Q) : ∃ g ∈ CSm, ∀ n, Q n → n ∈ g.2 := by
  obtain ⟨G, hG, hb⟩ := rot_G h
  obtain ⟨t, ht, e⟩ := List.mem_iff_getElem.mp hG
  have ht2 : t < CSm.length := by rw [← zip_len]; exact ht
  have hz : (G, CSm[t]) ∈ GMs.zip CSm := by
    rw [List.mem_iff_getElem]
    exact ⟨t, by rw [List.length_zip]; omega, by rw [List.getElem_zip, e]⟩
  have hm := List.all_eq_true.mp msk_t _ hz
  refine ⟨CSm[t], List.getElem_mem ht2, fun n hn => ?_⟩
  have hl : 0 < CSm[t].2.length ∧ CSm[t].2.getD 0 0 = 16484 := by
    have q := List.all_eq_true.mp cs_0 _ (List.getElem_mem ht2)
    rw [and_t] at q
    have q1 := Nat.eq_of_beq_eq_true q.1
    refine ⟨?_, q1⟩
    cases g : CSm[t].2 with
    | nil => rw [g] at q1; cases q1
    | cons a l => exact Nat.succ_pos _
  rcases rot_in h hn with rfl | ⟨g1, g2⟩
  · rw [← hl.2, List.getD_eq_getElem?_getD, List.getElem?_eq_getElem hl.1]
    exact List.getElem_mem hl.1
  · have q := up_ok hm (ixC n) (Nat.zero_le _) (by omega)
    unfold mskC at q
    rw [bitB_eq, hb _ ⟨g1, by rw [g2]; exact hn⟩, g2] at q
    exact List.contains_iff_mem.mp q
/-- closed within its table -/
theorem cs_closed {Q : Nat → Prop} (h : matN Q) {cs rh : List Nat} {M : Nat} {tb : Nat → Nat → Nat} (hrh : ∀ a, a < M → a ∈ rh) (hl : cs.length = 2 * M) (hle : ∀ a, a < 2 * M → cs.getD a 0 < 19683) (hm : ∀ a b, a < M → b < M → mulC (cs.getD a 0) (cs.getD b 0) = cs.getD (tb a b) 0) (hn : ∀ a, a < M → cs.getD (a + M) 0 = 19682 - cs.getD a 0) (ht : ∀ a b, a < M → b < M → tb a b < M ∧ tb (a + M) b = tb a b + M ∧ tb a (b + M) = tb a b + M ∧ tb (a + M) (b + M) = tb a b) : ∀ a b, (a < 2 * M ∧ Q (cs.getD a 0)) → (b < 2 * M ∧ Q (cs.getD b 0)) → (tb a b < 2 * M ∧ Q (cs.getD (tb a b) 0)) := by
  have nn : ∀ {n : Nat}, n < 19683 → 19682 - (19682 - n) = n := fun h => by omega
  have base : ∀ a b, a < M → b < M → ∀ c, c < 19683 → timesK (kN (cs.getD a 0)) (kN (cs.getD b 0)) = kN c → cs.getD (tb a b) 0 = c := fun a b ha hb c hc e => by
    rw [← hm a b ha hb]
    exact mulC_of (hle a (by omega)) (hle b (by omega)) hc e
  have red : ∀ a, a < 2 * M → a < M ∨ ∃ a', a' < M ∧ a = a' + M := fun a ha => by
    rcases Nat.lt_or_ge a M with g | g
    · exact Or.inl g
    · exact Or.inr ⟨a - M, by omega, by omega⟩
  rintro a b ⟨ha, qa⟩ ⟨hb, qb⟩
  obtain ⟨c, hc, e⟩ := h.1.2.2 _ _ qa qb
  have hcl := h.1.1 c hc
  rcases red a ha with ga | ⟨a', ga, rfl⟩ <;> rcases red b hb with gb | ⟨b', gb, rfl⟩
  · obtain ⟨t1, -⟩ := ht a b ga gb
    exact ⟨by omega, by rw [base a b ga gb c hcl e]; exact hc⟩
  · obtain ⟨t1, -, t3, -⟩ := ht a b' ga gb
    rw [hn b' gb] at e
    have e2 := negr (by have := hle b' (by omega); omega) hcl e
    rw [nn (hle b' (by omega))] at e2
    have e3 := base a b' ga gb _ (by omega) e2
    rw [t3, hn _ t1, e3, nn hcl]
    exact ⟨by omega, hc⟩
  · obtain ⟨t1, t2, -⟩ := ht a' b ga gb
    rw [hn a' ga] at e
    have e2 := negl (by have := hle a' (by omega); omega) hcl e
    rw [nn (hle a' (by omega))] at e2
    have e3 := base a' b ga gb _ (by omega) e2
    rw [t2, hn _ t1, e3, nn hcl]
    exact ⟨by omega, hc⟩
  · obtain ⟨t1, -, -, t4⟩ := ht a' b' ga gb
    rw [hn a' ga, hn b' gb] at e
    have e2 := negl (by have := hle a' (by omega); omega) hcl e
    rw [nn (hle a' (by omega))] at e2
    have e3 := negr (by have := hle b' (by omega); omega) (by omega) e2
    rw [nn (hle b' (by omega)), nn hcl] at e3
    rw [t4, base a' b' ga gb c hcl e3]
    exact ⟨by omega, hc⟩
theorem rg_all {M : Nat} {rg : List Nat} (hr : rg = List.range M) {f : Nat → Bool} (h : rg.all f = true) {a : Nat} (ha : a < M) : f a = true := List.all_eq_true.mp h a (by rw [hr]; exact List.mem_range.mpr ha)
theorem rg48_e : rg48 = List.range 48 := by decide
theorem rg24_e : rg24 = List.range 24 := by decide
theorem rg12_e : rg12 = List.range 12 := by decide
/-- the counts of SORTS of a closed set stand in the table -/
theorem cnt_rows {Q : Nat → Prop} (h : matN Q) : ∃ (cs : List Nat) (so : List Int) (N m : Nat), cs.Nodup ∧ cs.length = N ∧ (∀ n, Q n → ∃ j, j < N ∧ cs.getD j 0 = n) ∧ (∀ j, j < N → sortK (kN (cs.getD j 0)) = so.getD j 0) ∧ (∀ j, j < N → (m.testBit j = true ↔ Q (cs.getD j 0))) ∧ ∃ r ∈ row9, r = cnt9 so (List.range N) m := by
  obtain ⟨g, hg, hin⟩ := rot_cs h.rot
  have hi := iso_all hg
  have h0 := List.all_eq_true.mp cs_0 _ hg
  rw [and_t, and_t, decide_eq_true_iff] at h0
  obtain ⟨h00, h01, hnd⟩ := h0
  obtain ⟨ty, cs⟩ := g
  have ty1 : ty ≤ 1 := Nat.le_of_ble_eq_true h01
  have key : ∀ (M : Nat) (rg rh : List Nat) (so : List Int) (tb : Nat → Nat → Nat), rg = List.range (2 * M) → rh = List.range M → 0 < M → cs.length = 2 * M → isoG tb so rg rh cs = true → (rh.all fun a => Nat.beq (cs.getD (a + M) 0) (19682 - cs.getD a 0)) = true → (rh.all (fun a => rh.all fun b => Nat.ble (tb a b) (M - 1) && (Nat.beq (tb (a + M) b) (tb a b + M) && (Nat.beq (tb a (b + M)) (tb a b + M) && Nat.beq (tb (a + M) (b + M)) (tb a b))))) = true → gsr (2 * M) rg tb (okR so rg) 100000 0 0 [] [0] = true → ∃ (cs : List Nat) (so : List Int) (N m : Nat), cs.Nodup ∧ cs.length = N ∧ (∀ n, Q n → ∃ j, j < N ∧ cs.getD j 0 = n) ∧ (∀ j, j < N → sortK (kN (cs.getD j 0)) = so.getD j 0) ∧ (∀ j, j < N → (m.testBit j = true ↔ Q (cs.getD j 0))) ∧ ∃ r ∈ row9, r = cnt9 so (List.range N) m := by
    intro M rg rh so tb hrg hrh hM hlen hiso hneg htb hgs
    unfold isoG at hiso
    rw [and_t] at hiso
    have hso : ∀ a, a < 2 * M → sortK (kN (cs.getD a 0)) = so.getD a 0 ∧ cs.getD a 0 < 19683 := fun a ha => by
      have q := rg_all hrg hiso.1 ha
      rw [and_t, decide_eq_true_iff] at q
      exact ⟨q.1, by have := Nat.le_of_ble_eq_true q.2; omega⟩
    have hm : ∀ a b, a < M → b < M → mulC (cs.getD a 0) (cs.getD b 0) = cs.getD (tb a b) 0 := fun a b ha hb => by
      have q := rg_all hrh hiso.2 ha
      rw [frc_eq] at q
      exact Nat.eq_of_beq_eq_true (rg_all hrh q hb)
    have hn : ∀ a, a < M → cs.getD (a + M) 0 = 19682 - cs.getD a 0 := fun a ha => Nat.eq_of_beq_eq_true (rg_all hrh hneg ha)
    have ht : ∀ a b, a < M → b < M → tb a b < M ∧ tb (a + M) b = tb a b + M ∧ tb a (b + M) = tb a b + M ∧ tb (a + M) (b + M) = tb a b := fun a b ha hb => by
      have q := rg_all hrh (rg_all hrh htb ha) hb
      rw [and_t, and_t, and_t] at q
      exact ⟨by have := Nat.le_of_ble_eq_true q.1; omega, Nat.eq_of_beq_eq_true q.2.1, Nat.eq_of_beq_eq_true q.2.2.1, Nat.eq_of_beq_eq_true q.2.2.2⟩
    have hcl := cs_closed h (rh := rh) (fun a ha => by rw [hrh]; exact List.mem_range.mpr ha) hlen (fun a ha => (hso a ha).2) hm hn ht
    have hid : cs.getD 0 0 = 16484 := Nat.eq_of_beq_eq_true h00
    obtain ⟨m, hok, hb⟩ := gsr_ok (R := fun j => j < 2 * M ∧ Q (cs.getD j 0)) hcl hgs (fun j hj => by rw [Nat.zero_testBit] at hj; cases hj) (fun j hj => by rw [Nat.zero_testBit] at hj; cases hj) (fun g hg => absurd hg List.not_mem_nil) (fun x hx => by
      rw [List.mem_singleton.mp hx]
      exact ⟨by omega, by rw [hid]; exact h.1.2.1⟩)
    have mem : ∀ {n : Nat}, n ∈ cs → ∃ j, j < 2 * M ∧ cs.getD j 0 = n := fun {n} hn => by
      obtain ⟨j, hj, e⟩ := List.mem_iff_getElem.mp hn
      exact ⟨j, by omega, by rw [List.getD_eq_getElem?_getD, List.getElem?_eq_getElem hj]; exact e⟩
    refine ⟨cs, so, 2 * M, m, hnd, hlen, fun n hQ => ?_, fun j hj => (hso j hj).1, fun j hj => ?_, ?_⟩
    · have hln := h.1.1 n hQ
      rcases h.2 n hQ with d | d
      · exact mem (hin n ⟨hln, d, Or.inl hQ⟩)
      · have hneg : detF (mdg (kN (19682 - n))) = 1 := by rw [detF_neg (neg_mdg hln), d]; rfl
        obtain ⟨j, hj, e⟩ := mem (hin (19682 - n) ⟨by omega, hneg, Or.inr (by rw [show 19682 - (19682 - n) = n by omega]; exact hQ)⟩)
        rcases Nat.lt_or_ge j M with g | g
        · exact ⟨j + M, by omega, by rw [hn j g, e]; omega⟩
        · have q := hn (j - M) (by omega)
          rw [show j - M + M = j by omega, e] at q
          have := (hso (j - M) (by omega)).2
          exact ⟨j - M, by omega, by omega⟩
    · rw [hb j hj]
      exact ⟨fun q => q.2, fun q => ⟨hj, q⟩⟩
    · rw [hrg] at hok
      obtain ⟨r, hr, e⟩ := List.any_eq_true.mp hok
      exact ⟨r, hr, decide_eq_true_iff.mp e⟩
  rcases (show ty = 0 ∨ ty = 1 by omega) with rfl | rfl
  · have hi : (Nat.beq cs.length 48 && (isoG tbO SO rg48 rg24 cs && rg24.all fun a => Nat.beq (cs.getD (a + 24) 0) (19682 - cs.getD a 0))) = true := hi
    rw [and_t, and_t] at hi
    exact key 24 rg48 rg24 SO tbO rg48_e rg24_e (by omega) (Nat.eq_of_beq_eq_true hi.1) hi.2.1 hi.2.2 sgn_O gsr_O
  · have hi : (Nat.beq cs.length 24 && (isoG tbD SD rg24 rg12 cs && rg12.all fun a => Nat.beq (cs.getD (a + 12) 0) (19682 - cs.getD a 0))) = true := hi
    rw [and_t, and_t] at hi
    exact key 12 rg24 rg12 SD tbD rg24_e rg12_e (by omega) (Nat.eq_of_beq_eq_true hi.1) hi.2.1 hi.2.2 sgn_D gsr_D
