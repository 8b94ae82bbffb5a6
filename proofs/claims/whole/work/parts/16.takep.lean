/-! Taking one more: what holds on the way. -/
theorem pow_small {n k : Nat} (h : 2 ^ n ≤ k) (hk : k ≤ 192) : n < 8 := by
  rcases Nat.lt_or_ge n 8 with q | q
  · exact q
  · have : 2 ^ 8 ≤ 2 ^ n := Nat.pow_le_pow_right (by decide) q
    omega
theorem isG_congr {a b : List Int} (h : isG a) (hn : b.Nodup) (hm : ∀ x, x ∈ a ↔ x ∈ b) : isG b :=
  ⟨hn, (hm _).mp h.2.1, fun x hx => h.2.2.1 x ((hm x).mpr hx), fun x hx y hy => (hm _).mp (h.2.2.2 x ((hm x).mpr hx) y ((hm y).mpr hy))⟩
theorem isG.pos {a : List Int} (h : isG a) : 0 < a.length := List.length_pos_of_mem h.2.1
def TI (cm g ks rs : List Int) (mm : Nat) (key : Int) : Prop := DI cm g ks rs ∧ 1 ≤ mm ∧ mm ≤ rs.length ∧ 2 ≤ rs.length ∧ key ∈ ks ∧ ∀ i, 1 ≤ i → i < mm → ∀ a ∈ g, timesK (rs.getD i (-1)) a ∈ ks
def TJ (cm g ks rs : List Int) (mm : Nat) (key : Int) (gi : Nat) : Prop := TI cm g ks rs mm key ∧ mm < rs.length ∧ gi ≤ g.length ∧ ∀ t, t < gi → timesK (rs.getD mm (-1)) (g.getD t (-1)) ∈ ks
theorem TJ.has {cm g ks rs : List Int} {mm gi : Nat} {key : Int} (h : TJ cm g ks rs mm key gi) (hg : gi < g.length) (hm : timesK (rs.getD mm (-1)) (g.getD gi (-1)) ∈ ks) : TJ cm g ks rs mm key (gi + 1) := by
  refine ⟨h.1, h.2.1, by omega, fun t ht => ?_⟩
  rcases Nat.lt_or_ge t gi with q | q
  · exact h.2.2.2 t q
  · obtain rfl : t = gi := by omega
    exact hm
theorem TJ.add {cm g ks ks3 rs : List Int} {mm gi : Nat} {key : Int} (h : TJ cm g ks rs mm key gi) (hg : gi < g.length) (hgv : ∀ a ∈ g, vOK a) (hne : timesK (rs.getD mm (-1)) (g.getD gi (-1)) ≠ -1) (hx : timesK (rs.getD mm (-1)) (g.getD gi (-1)) ∉ ks) (hb : ∀ j, j < cm.length → timesK (cm.getD j (-1)) (timesK (rs.getD mm (-1)) (g.getD gi (-1))) ≠ -1)
    (hk : ∀ y, y ∈ ks3 ↔ y ∈ ks ∨ newAt cm (timesK (rs.getD mm (-1)) (g.getD gi (-1))) cm.length y) : TJ cm g ks3 (rs ++ [timesK (rs.getD mm (-1)) (g.getD gi (-1))]) mm key (gi + 1) := by
  obtain ⟨⟨hD, h1, h2, h3, h4, h5⟩, h6, h7, h8⟩ := h
  have hnx := hD.next (getD_mem h6) (getD_mem hg) (hgv _ (getD_mem hg)) hne
  have hbne : ∀ a ∈ cm, timesK a (timesK (rs.getD mm (-1)) (g.getD gi (-1))) ≠ -1 := fun a ha => by
    obtain ⟨j, hj, rfl⟩ := mem_getD ha
    exact hb j hj
  have hk2 : ∀ y, y ∈ ks3 ↔ y ∈ ks ∨ y ∈ cm.map (fun a => timesK a (timesK (rs.getD mm (-1)) (g.getD gi (-1)))) := fun y => by
    rw [hk y, ← mem_new, List.take_length]
  have hD2 := hD.add hnx.1 hx hbne (fun a ha => hnx.2 a ha (hbne a ha)) hk2
  have up : ∀ {y}, y ∈ ks → y ∈ ks3 := fun q => (hk2 _).mpr (Or.inl q)
  have at1 : ∀ i, i < rs.length → (rs ++ [timesK (rs.getD mm (-1)) (g.getD gi (-1))]).getD i (-1) = rs.getD i (-1) := fun i hi => by rw [getD_snoc, if_pos hi]
  refine ⟨⟨hD2, h1, ?_, ?_, up h4, fun i a b c hc => ?_⟩, ?_, by omega, fun t ht => ?_⟩
  · rw [List.length_append]; omega
  · rw [List.length_append]; omega
  · rw [at1 i (by omega)]; exact up (h5 i a b c hc)
  · rw [List.length_append]; omega
  · rw [at1 mm h6]
    rcases Nat.lt_or_ge t gi with q | q
    · exact up (h8 t q)
    · obtain rfl : t = gi := by omega
      refine hD2.rs_in (List.mem_append_right _ List.mem_cons_self)
theorem TJ.done {cm g ks rs : List Int} {mm gi : Nat} {key : Int} (h : TJ cm g ks rs mm key gi) (hg : g.length ≤ gi) : TI cm g ks rs (mm + 1) key := by
  obtain ⟨⟨hD, h1, h2, h3, h4, h5⟩, h6, h7, h8⟩ := h
  refine ⟨hD, by omega, by omega, h3, h4, fun i a b c hc => ?_⟩
  rcases Nat.lt_or_ge i mm with q | q
  · exact h5 i a q c hc
  · obtain rfl : i = mm := by omega
    obtain ⟨t, ht, rfl⟩ := mem_getD hc
    exact h8 t (by omega)
theorem TI.done {ks0 cm gs ks rs : List Int} {mm : Nat} {key : Int} (hc : CIv ks0 cm gs) (hkv : vOK key) (h : TI cm (gs ++ [key]) ks rs mm key) (hm : rs.length ≤ mm) (hs : ks.Pairwise (· < ·)) (hl : ks.length ≤ 192) (hlen : (cosets cm rs).length = ks.length) : CIv ks (cosets cm rs) (gs ++ [key]) := by
  obtain ⟨hD, h1, h2, h3, h4, h5⟩ := h
  have hgv : ∀ a ∈ gs ++ [key], vOK a := fun a ha => by
    rcases List.mem_append.mp ha with q | q
    · exact hc.2.2.2.2.2.1 a q
    · rw [List.mem_singleton.mp q]; exact hkv
  have hcl : ∀ r ∈ rs, ∀ a ∈ gs ++ [key], timesK r a ∈ ks := fun r hr a ha => by
    obtain ⟨i, hi, rfl⟩ := mem_getD hr
    rcases Nat.eq_zero_or_pos i with q | q
    · subst q
      rw [hD.2.2.1, u0_l (hgv a ha).1]
      rcases List.mem_append.mp ha with q | q
      · refine hD.H_in ((hc.2.2.2.1 a).mp ((hc.2.2.1.2.2.1 a).mpr ?_))
        have := Reach.step (Reach.u gs) q (by rw [u0_l (hgv a ha).1]; have := (hgv a ha).1.1; omega)
        rw [u0_l (hgv a ha).1] at this
        exact this
      · rw [List.mem_singleton.mp q]; exact h4
    · exact h5 i q (by omega) a ha
  have hgen := hD.gen hcl hs hl
  have hG := hgen.isG hgv
  refine ⟨isG_congr hG hD.2.2.2.2.2.1 hD.2.2.2.2.2.2, ?_, hgen, hD.2.2.2.2.2.2, ?_, hgv, hlen⟩
  · have := cosets_at cm hc.1.pos rs 0 (by omega)
    rw [Nat.mul_zero] at this
    rw [this, hc.2.1, hD.2.2.1, u0_l u0_ok]
  · rw [cosets_len, List.length_append, List.length_singleton, Nat.pow_succ]
    exact Nat.mul_le_mul hc.2.2.2.2.1 h3
theorem TJ.bad {cm g ks rs G : List Int} {mm gi : Nat} {key : Int} (h : TJ cm g ks rs mm key gi) (hg : gi < g.length) (hgv : ∀ a ∈ g, vOK a) (hG : genOK g G) : timesK (rs.getD mm (-1)) (g.getD gi (-1)) ∈ G := by
  have gG := hG.isG hgv
  refine gG.2.2.2 _ (h.1.1.in_gen hG (h.1.1.rs_in (getD_mem h.2.1))) _ ?_
  rw [hG.2.2.1]
  have hv := (hgv _ (getD_mem hg)).1
  have := Reach.step (Reach.u g) (getD_mem hg) (by rw [u0_l hv]; have := hv.1; omega)
  rw [u0_l hv] at this
  exact this
theorem DI.hfr {H g ks rs : List Int} (h : DI H g ks rs) {x : Int} (hv : vOK x) (hx : x ∉ ks) : ∀ j, j < H.length → timesK (H.getD j (-1)) x ≠ -1 → timesK (H.getD j (-1)) x ∉ ks := fun _ hj hn => h.fresh hv.1 hx (getD_mem hj) hn
theorem getD_nd {H : List Int} (h : H.Nodup) {i j : Nat} (hi : i < H.length) (hj : j < H.length) (e : H.getD i (-1) = H.getD j (-1)) : i = j := by
  rw [List.getD_eq_getElem?_getD, List.getD_eq_getElem?_getD, List.getElem?_eq_getElem hi, List.getElem?_eq_getElem hj] at e
  have e : H[i] = H[j] := e
  rw [List.nodup_iff_pairwise_ne, List.pairwise_iff_getElem] at h
  rcases Nat.lt_trichotomy i j with q | q | q
  · exact absurd e (h i j hi hj q)
  · exact q
  · exact absurd e.symm (h j i hj hi q)
theorem DI.hij {H g ks rs : List Int} (h : DI H g ks rs) {x : Int} (hv : vOK x) : ∀ i j, i < H.length → j < H.length → timesK (H.getD i (-1)) x ≠ -1 → timesK (H.getD i (-1)) x = timesK (H.getD j (-1)) x → i = j := fun i j hi hj hn e =>
  getD_nd h.1.1 hi hj (times_rcancel hv (h.1.2.2.1 _ (getD_mem hi)).1 (h.1.2.2.1 _ (getD_mem hj)).1 hn e)
/-- came's list behind a coset more -/
theorem cos_cmI (cm rs : List Int) (x : Int) (n : Nat) (h : ∀ j, j < n → (cosets cm rs).getD j (-1) = cm.getD j (-1)) (hn : n = cm.length) (hl : n ≤ (cosets cm rs).length) : cmI (cosets cm rs) x n = cosets cm (rs ++ [x]) := by
  rw [cosets_add]
  unfold cmI
  congr 1
  have e : (cosets cm rs).take n = cm := by
    refine list_eq_getD (by rw [List.length_take]; omega) fun j hj => ?_
    rw [List.length_take] at hj
    rw [← h j (by omega), List.getD_eq_getElem?_getD, List.getElem?_take, if_pos (by omega), List.getD_eq_getElem?_getD]
  rw [e]
theorem DI.front {H g ks rs : List Int} (h : DI H g ks rs) : ∀ j, j < H.length → (cosets H rs).getD j (-1) = H.getD j (-1) := by
  intro j hj
  have h0 := h.u
  cases hr : rs with
  | nil => rw [hr] at h0; exact absurd h0 List.not_mem_nil
  | cons r rs2 =>
    have h3 := h.2.2.1
    rw [hr] at h3
    have e : r = u0 := h3
    have e2 : cosets H (r :: rs2) = H.map (fun h => timesK h r) ++ cosets H rs2 := by unfold cosets; rw [List.flatMap_cons]
    rw [e2, getD_app, List.length_map, if_pos hj, e]
    simp only [List.getD_eq_getElem?_getD, List.getElem?_map, List.getElem?_eq_getElem hj]
    exact u0_r (h.1.2.2.1 _ (List.getElem_mem hj)).1
theorem DI.ckv {H g ks rs : List Int} (h : DI H g ks rs) : ∀ j, j < H.length → kOK ((cosets H rs).getD j (-1)) := fun j hj => by
  rw [h.front j hj]; exact (h.1.2.2.1 _ (getD_mem hj)).1
theorem DI.cfr {H g ks rs : List Int} (h : DI H g ks rs) {x : Int} (hv : vOK x) (hx : x ∉ ks) : ∀ j, j < H.length → timesK ((cosets H rs).getD j (-1)) x ≠ -1 → timesK ((cosets H rs).getD j (-1)) x ∉ ks := fun j hj => by
  rw [h.front j hj]; exact h.hfr hv hx j hj
theorem DI.cij {H g ks rs : List Int} (h : DI H g ks rs) {x : Int} (hv : vOK x) : ∀ i j, i < H.length → j < H.length → timesK ((cosets H rs).getD i (-1)) x ≠ -1 → timesK ((cosets H rs).getD i (-1)) x = timesK ((cosets H rs).getD j (-1)) x → i = j := fun i j hi hj => by
  rw [h.front i hi, h.front j hj]; exact h.hij hv i j hi hj
theorem DI.rpos {H g ks rs : List Int} (h : DI H g ks rs) : 0 < rs.length := List.length_pos_of_mem h.u
theorem DI.clen {H g ks rs : List Int} (h : DI H g ks rs) : H.length ≤ (cosets H rs).length := by
  rw [cosets_len]
  exact Nat.le_mul_of_pos_right _ h.rpos
theorem newAt_front {H g ks rs : List Int} (h : DI H g ks rs) {x y : Int} : newAt (cosets H rs) x H.length y ↔ newAt H x H.length y := by
  have hl := h.clen
  constructor
  · rintro ⟨j, a, b, e⟩
    rw [h.front j a] at e
    exact ⟨j, a, a, e⟩
  · rintro ⟨j, a, b, e⟩
    refine ⟨j, a, by omega, ?_⟩
    rw [h.front j a]; exact e
theorem cosets_u {H : List Int} (h : isG H) : cosets H [u0] = H := by
  unfold cosets
  simp only [List.flatMap_cons, List.flatMap_nil, List.append_nil]
  have e2 : H.map (fun h => timesK h u0) = H.map id := List.map_congr_left fun a ha => u0_r (h.2.2.1 a ha).1
  rw [e2, List.map_id]
theorem first_TI {ks cm gs ks2 : List Int} {key : Int} (hc : CIv ks cm gs) (hkv : vOK key) (hx : key ∉ ks) (hb : ∀ j, j < cm.length → timesK (cm.getD j (-1)) key ≠ -1) (hk : ∀ y, y ∈ ks2 ↔ y ∈ ks ∨ newAt cm key cm.length y) : TI cm (gs ++ [key]) ks2 [u0, key] 1 key ∧ cmI cm key cm.length = cosets cm [u0, key] := by
  have hD := hc.DI key
  have hbne : ∀ a ∈ cm, timesK a key ≠ -1 := fun a ha => by
    obtain ⟨j, hj, rfl⟩ := mem_getD ha
    exact hb j hj
  have hk2 : ∀ y, y ∈ ks2 ↔ y ∈ ks ∨ y ∈ cm.map (fun a => timesK a key) := fun y => by
    rw [hk y, ← mem_new, List.take_length]
  have hre : ∀ a ∈ cm, Reach (gs ++ [key]) (timesK a key) := fun a ha => by
    refine Reach.step ?_ (List.mem_append_right _ List.mem_cons_self) (hbne a ha)
    have := (hD.2.2.2.2.1 u0 List.mem_cons_self a ha).2
    rw [u0_r (hc.1.2.2.1 a ha).1] at this
    exact this
  have hD2 := hD.add hkv hx hbne hre hk2
  refine ⟨⟨hD2, Nat.le_refl _, Nat.le_add_left 1 1, Nat.le_refl 2, hD2.rs_in (List.mem_append_right _ List.mem_cons_self), fun i a b => absurd a (by omega)⟩, ?_⟩
  have e := cos_cmI cm [u0] key cm.length (fun j hj => by rw [cosets_u hc.1]) rfl (by rw [cosets_u hc.1]; exact Nat.le_refl _)
  rw [cosets_u hc.1] at e
  exact e
theorem first_bad {ks cm gs : List Int} {key : Int} (hc : CIv ks cm gs) (hkv : vOK key) (hx : key ∉ ks) (hf : (∃ j, j < cm.length ∧ timesK (cm.getD j (-1)) key = -1) ∨ 192 < cm.length + cm.length) : ¬ ∃ G, genOK (gs ++ [key]) G := by
  rintro ⟨G, hG⟩
  have hgv : ∀ a ∈ gs ++ [key], vOK a := fun a ha => by
    rcases List.mem_append.mp ha with q | q
    · exact hc.2.2.2.2.2.1 a q
    · rw [List.mem_singleton.mp q]; exact hkv
  have hkG : key ∈ G := by
    rw [hG.2.2.1]
    have := Reach.step (Reach.u (gs ++ [key])) (List.mem_append_right gs (List.mem_cons_self (a := key) (l := []))) (by rw [u0_l hkv.1]; have := hkv.1.1; omega)
    rw [u0_l hkv.1] at this
    exact this
  have hft := (hc.DI key).fit hG hgv hkG hx
  rw [cosets_u hc.1] at hft
  rcases hf with ⟨j, hj, e⟩ | hf
  · exact hft.1 _ (getD_mem hj) e
  · omega
theorem next_bad {cm g ks rs : List Int} {mm gi : Nat} {key : Int} (h : TJ cm g ks rs mm key gi) (hg : gi < g.length) (hgv : ∀ a ∈ g, vOK a) (hx : timesK (rs.getD mm (-1)) (g.getD gi (-1)) ∉ ks) (hf : (∃ j, j < cm.length ∧ timesK ((cosets cm rs).getD j (-1)) (timesK (rs.getD mm (-1)) (g.getD gi (-1))) = -1) ∨ 192 < (cosets cm rs).length + cm.length) : ¬ ∃ G, genOK g G := by
  rintro ⟨G, hG⟩
  have hft := h.1.1.fit hG hgv (h.bad hg hgv hG) hx
  rcases hf with ⟨j, hj, e⟩ | hf
  · rw [h.1.1.front j hj] at e
    exact hft.1 _ (getD_mem hj) e
  · omega
theorem next_none {cm g ks rs : List Int} {mm gi : Nat} {key : Int} (h : TJ cm g ks rs mm key gi) (hg : gi < g.length) (hgv : ∀ a ∈ g, vOK a) (hx : timesK (rs.getD mm (-1)) (g.getD gi (-1)) = -1) : ¬ ∃ G, genOK g G := by
  rintro ⟨G, hG⟩
  exact (hG.isG hgv).ne (h.bad hg hgv hG) hx
