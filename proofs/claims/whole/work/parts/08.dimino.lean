/-! Closing by cosets. -/
def plL : List Int := (List.range 13824).map (fun (n : Nat) => (n : Int))
theorem mem_plL {x : Int} : x ∈ plL ↔ isPl x := by
  unfold plL isPl
  constructor
  · intro h
    obtain ⟨n, hn, rfl⟩ := List.mem_map.mp h
    have := List.mem_range.mp hn
    omega
  · intro h
    exact List.mem_map.mpr ⟨x.toNat, List.mem_range.mpr (by omega), by omega⟩
theorem plL_nodup : plL.Nodup := by
  unfold plL
  rw [List.nodup_iff_pairwise_ne, List.pairwise_map]
  have h : (List.range 13824).Pairwise (· ≠ ·) := List.nodup_range
  exact h.imp fun h e => h (by omega)
theorem act_surj {k y : Int} (hk : vOK k) (hy : isPl y) : ∃ x, isPl x ∧ movK k x = y := by
  have h1 := nodup_map_on (f := movK k) plL_nodup fun x hx y hy e => hk.2 x y (mem_plL.mp hx) (mem_plL.mp hy) e
  have h2 := full_sub (b := plL) h1 (fun x hx => by
    obtain ⟨z, hz, rfl⟩ := List.mem_map.mp hx
    exact mem_plL.mpr (movK_pl k z)) (by rw [List.length_map]; exact Nat.le_refl _) y (mem_plL.mpr hy)
  obtain ⟨x, hx, e⟩ := List.mem_map.mp h2
  exact ⟨x, mem_plL.mp hx, e⟩
theorem times_rcancel {p q x : Int} (hx : vOK x) (hp : kOK p) (hq : kOK q) (h : timesK p x ≠ -1) (e : timesK p x = timesK q x) : p = q := by
  have h2 : timesK q x ≠ -1 := by rw [← e]; exact h
  refine key_act hp hq fun y hy => ?_
  obtain ⟨z, -, rfl⟩ := act_surj hx hy
  rw [← times_act z h, ← times_act z h2, e]
theorem isG.back {H : List Int} (h : isG H) {a x : Int} (ha : a ∈ H) (hx : kOK x) (hne : timesK a x ≠ -1) : ∃ b ∈ H, timesK b (timesK a x) = x := by
  obtain ⟨b, hb, -, e⟩ := h.inv ha
  refine ⟨b, hb, ?_⟩
  have hba : timesK b a ≠ -1 := by rw [e]; unfold u0; omega
  rw [← times_assoc hba hne, e, u0_l hx]
def cosets (H rs : List Int) : List Int := rs.flatMap (fun r => H.map (fun h => timesK h r))
theorem mem_cosets {H rs : List Int} {x : Int} : x ∈ cosets H rs ↔ ∃ r ∈ rs, ∃ h ∈ H, timesK h r = x := by
  unfold cosets
  rw [List.mem_flatMap]
  constructor
  · rintro ⟨r, hr, hx⟩
    obtain ⟨h, hh, e⟩ := List.mem_map.mp hx
    exact ⟨r, hr, h, hh, e⟩
  · rintro ⟨r, hr, h, hh, e⟩
    exact ⟨r, hr, List.mem_map.mpr ⟨h, hh, e⟩⟩
theorem cosets_add (H rs : List Int) (x : Int) : cosets H (rs ++ [x]) = cosets H rs ++ H.map (fun h => timesK h x) := by
  unfold cosets
  rw [List.flatMap_append]
  simp
theorem cosets_len (H : List Int) : ∀ rs : List Int, (cosets H rs).length = H.length * rs.length
  | [] => by simp [cosets]
  | r :: rs => by
    have := cosets_len H rs
    unfold cosets at *
    rw [List.flatMap_cons, List.length_append, this, List.length_map, List.length_cons, Nat.mul_succ]
    omega
theorem cosets_at (H : List Int) (hH : 0 < H.length) : ∀ (rs : List Int) (i : Nat), i < rs.length → (cosets H rs).getD (H.length * i) (-1) = timesK (H.getD 0 (-1)) (rs.getD i (-1))
  | [], i, h => absurd h (Nat.not_lt_zero _)
  | r :: rs, i, h => by
    have e : cosets H (r :: rs) = H.map (fun h => timesK h r) ++ cosets H rs := by unfold cosets; rw [List.flatMap_cons]
    rw [e, getD_app, List.length_map]
    cases i with
    | zero =>
      rw [Nat.mul_zero, if_pos hH]
      simp only [List.getD_eq_getElem?_getD, List.getElem?_map, List.getElem?_eq_getElem hH, List.getElem?_cons_zero]
      rfl
    | succ i =>
      rw [if_neg (by rw [Nat.mul_succ]; omega), show H.length * (i + 1) - H.length = H.length * i by rw [Nat.mul_succ]; omega, cosets_at H hH rs i (by simpa using h)]
      simp only [List.getD_eq_getElem?_getD, List.getElem?_cons_succ]
def DI (H g ks rs : List Int) : Prop := isG H ∧ H.getD 0 (-1) = u0 ∧ rs.getD 0 (-1) = u0 ∧ (∀ r ∈ rs, vOK r) ∧ (∀ r ∈ rs, ∀ h ∈ H, timesK h r ≠ -1 ∧ Reach g (timesK h r)) ∧ (cosets H rs).Nodup ∧ ∀ x, x ∈ ks ↔ x ∈ cosets H rs
theorem DI.v {H g ks rs : List Int} (h : DI H g ks rs) {x : Int} (hx : x ∈ ks) : vOK x := by
  obtain ⟨r, hr, a, ha, rfl⟩ := mem_cosets.mp ((h.2.2.2.2.2.2 x).mp hx)
  exact vOK_times (h.1.2.2.1 a ha) (h.2.2.2.1 r hr) (h.2.2.2.2.1 r hr a ha).1
theorem DI.fresh {H g ks rs : List Int} (h : DI H g ks rs) {x : Int} (hv : kOK x) (hx : x ∉ ks) {a : Int} (ha : a ∈ H) (hne : timesK a x ≠ -1) : timesK a x ∉ ks := by
  intro hm
  obtain ⟨r, hr, c, hc, e⟩ := mem_cosets.mp ((h.2.2.2.2.2.2 _).mp hm)
  obtain ⟨b, hb, eb⟩ := h.1.back ha hv hne
  have hcr := (h.2.2.2.2.1 r hr c hc).1
  apply hx
  rw [h.2.2.2.2.2.2 x, ← eb, ← e, ← times_assoc (h.1.tne hb hc) hcr]
  exact mem_cosets.mpr ⟨r, hr, timesK b c, h.1.2.2.2 b hb c hc, rfl⟩
theorem DI.blk {H g ks rs : List Int} (h : DI H g ks rs) {x : Int} (hv : vOK x) (hne : ∀ a ∈ H, timesK a x ≠ -1) : (H.map (fun a => timesK a x)).Nodup :=
  nodup_map_on h.1.1 fun a ha b hb e => times_rcancel hv (h.1.2.2.1 a ha).1 (h.1.2.2.1 b hb).1 (hne a ha) e
theorem DI.dis {H g ks rs : List Int} (h : DI H g ks rs) {x : Int} (hv : vOK x) (hx : x ∉ ks) (hne : ∀ a ∈ H, timesK a x ≠ -1) : (cosets H rs ++ H.map (fun a => timesK a x)).Nodup := by
  rw [List.nodup_append]
  refine ⟨h.2.2.2.2.2.1, h.blk hv hne, fun a ha b hb e => ?_⟩
  obtain ⟨c, hc, rfl⟩ := List.mem_map.mp hb
  exact h.fresh hv.1 hx hc (hne c hc) ((h.2.2.2.2.2.2 _).mpr (e ▸ ha))
theorem DI.add {H g ks ks' rs : List Int} (h : DI H g ks rs) {x : Int} (hv : vOK x) (hx : x ∉ ks) (hne : ∀ a ∈ H, timesK a x ≠ -1) (hre : ∀ a ∈ H, Reach g (timesK a x)) (hk : ∀ y, y ∈ ks' ↔ y ∈ ks ∨ y ∈ H.map (fun a => timesK a x)) : DI H g ks' (rs ++ [x]) := by
  have hnd := h.dis hv hx hne
  obtain ⟨h1, h2, h3, h4, h5, h6, h7⟩ := h
  refine ⟨h1, h2, ?_, ?_, ?_, ?_, ?_⟩
  · rw [getD_app]
    by_cases h0 : 0 < rs.length
    · rw [if_pos h0]; exact h3
    · exfalso
      have : rs = [] := List.length_eq_zero_iff.mp (by omega)
      rw [this] at h3
      exact absurd h3 (by decide)
  · intro r hr
    rcases List.mem_append.mp hr with q | q
    · exact h4 r q
    · rw [List.mem_singleton.mp q]; exact hv
  · intro r hr a ha
    rcases List.mem_append.mp hr with q | q
    · exact h5 r q a ha
    · rw [List.mem_singleton.mp q]; exact ⟨hne a ha, hre a ha⟩
  · rw [cosets_add]; exact hnd
  · intro y
    rw [cosets_add, List.mem_append, ← h7, hk]
theorem DI.next {H g ks rs : List Int} (h : DI H g ks rs) {r a : Int} (hr : r ∈ rs) (ha : a ∈ g) (hv : vOK a) (hne : timesK r a ≠ -1) : vOK (timesK r a) ∧ ∀ c ∈ H, timesK c (timesK r a) ≠ -1 → Reach g (timesK c (timesK r a)) := by
  refine ⟨vOK_times (h.2.2.2.1 r hr) hv hne, fun c hc hn => ?_⟩
  have h5 := h.2.2.2.2.1 r hr c hc
  rw [← times_assoc h5.1 hne] at hn ⊢
  exact Reach.step h5.2 ha hn
theorem DI.u {H g ks rs : List Int} (h : DI H g ks rs) : u0 ∈ rs := by
  have h0 : 0 < rs.length := by
    rcases Nat.eq_zero_or_pos rs.length with q | q
    · have : rs = [] := List.length_eq_zero_iff.mp q
      have h3 := h.2.2.1
      rw [this] at h3
      exact absurd h3 (by decide)
    · exact q
  rw [← h.2.2.1]
  exact getD_mem h0
theorem DI.rs_in {H g ks rs : List Int} (h : DI H g ks rs) {r : Int} (hr : r ∈ rs) : r ∈ ks := by
  rw [h.2.2.2.2.2.2]
  exact mem_cosets.mpr ⟨r, hr, u0, h.1.2.1, u0_l (h.2.2.2.1 r hr).1⟩
theorem DI.H_in {H g ks rs : List Int} (h : DI H g ks rs) {a : Int} (ha : a ∈ H) : a ∈ ks := by
  rw [h.2.2.2.2.2.2]
  exact mem_cosets.mpr ⟨u0, h.u, a, ha, u0_r (h.1.2.2.1 a ha).1⟩
theorem DI.closed {H g ks rs : List Int} (h : DI H g ks rs) (hc : ∀ r ∈ rs, ∀ a ∈ g, timesK r a ∈ ks) {x a : Int} (hx : x ∈ ks) (ha : a ∈ g) : timesK x a ∈ ks := by
  obtain ⟨r, hr, c, hcc, rfl⟩ := mem_cosets.mp ((h.2.2.2.2.2.2 x).mp hx)
  have h1 := hc r hr a ha
  have hne : timesK r a ≠ -1 := by have := (h.v h1).1.1; omega
  rw [times_assoc (h.2.2.2.2.1 r hr c hcc).1 hne]
  obtain ⟨r2, hr2, c2, hc2, e⟩ := mem_cosets.mp ((h.2.2.2.2.2.2 _).mp h1)
  rw [← e, ← times_assoc (h.1.tne hcc hc2) (h.2.2.2.2.1 r2 hr2 c2 hc2).1, h.2.2.2.2.2.2]
  exact mem_cosets.mpr ⟨r2, hr2, timesK c c2, h.1.2.2.2 c hcc c2 hc2, rfl⟩
theorem DI.gen {H g ks rs : List Int} (h : DI H g ks rs) (hc : ∀ r ∈ rs, ∀ a ∈ g, timesK r a ∈ ks) (hs : ks.Pairwise (· < ·)) (hl : ks.length ≤ 192) : genOK g ks := by
  refine ⟨hs, hl, fun x => ⟨fun hx => ?_, fun hx => ?_⟩, fun x hx a ha => ?_⟩
  · obtain ⟨r, hr, c, hcc, rfl⟩ := mem_cosets.mp ((h.2.2.2.2.2.2 x).mp hx)
    exact (h.2.2.2.2.1 r hr c hcc).2
  · exact hx (fun x => x ∈ ks) (h.rs_in h.u) fun y a hy ha _ => h.closed hc hy ha
  · have := (h.v (h.closed hc hx ha)).1.1
    omega
theorem DI.in_gen {H g ks rs G : List Int} (h : DI H g ks rs) (hG : genOK g G) {x : Int} (hx : x ∈ ks) : x ∈ G := by
  obtain ⟨r, hr, c, hcc, rfl⟩ := mem_cosets.mp ((h.2.2.2.2.2.2 x).mp hx)
  exact (hG.2.2.1 _).mpr (h.2.2.2.2.1 r hr c hcc).2
theorem DI.fit {H g ks rs G : List Int} (h : DI H g ks rs) (hG : genOK g G) (hg : ∀ a ∈ g, vOK a) {x : Int} (hxG : x ∈ G) (hx : x ∉ ks) : (∀ a ∈ H, timesK a x ≠ -1) ∧ (cosets H rs).length + H.length ≤ 192 := by
  have gG := hG.isG hg
  have h1 : ∀ a ∈ H, timesK a x ∈ G := fun a ha => gG.2.2.2 a (h.in_gen hG (h.H_in ha)) x hxG
  have hne : ∀ a ∈ H, timesK a x ≠ -1 := fun a ha => gG.ne (h1 a ha)
  refine ⟨hne, ?_⟩
  have hnd := h.dis (gG.2.2.1 x hxG) hx hne
  have hl := len_sub _ G hnd fun y hy => by
    rcases List.mem_append.mp hy with q | q
    · exact h.in_gen hG ((h.2.2.2.2.2.2 y).mpr q)
    · obtain ⟨a, ha, rfl⟩ := List.mem_map.mp q
      exact h1 a ha
  rw [List.length_append, List.length_map] at hl
  have := hG.2.1
  omega
/-- at rest: the group of the generators -/
def CIv (ks cm gs : List Int) : Prop := isG cm ∧ cm.getD 0 (-1) = u0 ∧ genOK gs ks ∧ (∀ x, x ∈ ks ↔ x ∈ cm) ∧ 2 ^ gs.length ≤ cm.length ∧ (∀ a ∈ gs, vOK a) ∧ cm.length = ks.length
theorem Reach.mono {g g' : List Int} (hs : ∀ a ∈ g, a ∈ g') {x : Int} (h : Reach g x) : Reach g' x := fun S h0 h1 => h S h0 fun y a hy ha hn => h1 y a hy (hs a ha) hn
theorem CIv.DI {ks cm gs : List Int} (h : CIv ks cm gs) (key : Int) : DI cm (gs ++ [key]) ks [u0] := by
  obtain ⟨h1, h2, h3, h4, h5, h6, h7⟩ := h
  have e : cosets cm [u0] = cm := by
    unfold cosets
    simp only [List.flatMap_cons, List.flatMap_nil, List.append_nil]
    have e2 : cm.map (fun h => timesK h u0) = cm.map id := List.map_congr_left fun a ha => u0_r (h1.2.2.1 a ha).1
    rw [e2, List.map_id]
  refine ⟨h1, h2, rfl, ?_, ?_, ?_, ?_⟩
  · intro r hr
    rw [List.mem_singleton.mp hr]; exact u0_v
  · intro r hr a ha
    rw [List.mem_singleton.mp hr, u0_r (h1.2.2.1 a ha).1]
    refine ⟨h1.ne ha, ?_⟩
    exact Reach.mono (fun b hb => List.mem_append_left _ hb) ((h3.2.2.1 a).mp ((h4 a).mpr ha))
  · rw [e]; exact h1.1
  · rw [e]; exact h4
theorem CIv.start : CIv [u0] [u0] [] := by
  have hg : genOK [] [u0] := by
    refine ⟨List.pairwise_singleton _ _, by decide, fun x => ⟨fun hx => ?_, fun hx => ?_⟩, fun x hx a ha => absurd ha List.not_mem_nil⟩
    · rw [List.mem_singleton.mp hx]; exact Reach.u _
    · exact hx (fun x => x ∈ [u0]) List.mem_cons_self fun y a _ ha _ => absurd ha List.not_mem_nil
  exact ⟨hg.isG (fun a ha => absurd ha List.not_mem_nil), rfl, hg, fun x => Iff.rfl, by decide, fun a ha => absurd ha List.not_mem_nil, rfl⟩
theorem genOK.sub {g ch ks : List Int} (h : genOK ch ks) (hv : ∀ a ∈ ch, vOK a) (hs : ∀ a ∈ g, a ∈ ks) : ∃ ks', genOK g ks' := by
  have gG := h.isG hv
  have hd : ∀ x, Decidable (Reach g x) := fun x => Classical.propDecidable _
  refine ⟨ks.filter (fun x => @decide (Reach g x) (hd x)), h.1.sublist List.filter_sublist, Nat.le_trans (List.length_filter_le _ _) h.2.1, fun x => ?_, fun x hx a ha => ?_⟩
  · rw [List.mem_filter]
    constructor
    · intro q; exact @of_decide_eq_true _ (hd x) q.2
    · intro q
      refine ⟨?_, @decide_eq_true _ (hd x) q⟩
      exact q (fun x => x ∈ ks) gG.2.1 fun y a hy ha _ => gG.2.2.2 y hy a (hs a ha)
  · exact gG.tne (List.mem_filter.mp hx).1 (hs a ha)
theorem genOK.more {g ch ks : List Int} (h : genOK g ks) (hv : ∀ a ∈ g, vOK a) (h1 : ∀ a ∈ g, a ∈ ch) (h2 : ∀ a ∈ ch, a ∈ ks) : genOK ch ks := by
  have gG := h.isG hv
  refine ⟨h.1, h.2.1, fun x => ⟨fun hx => Reach.mono h1 ((h.2.2.1 x).mp hx), fun hx => ?_⟩, fun x hx a ha => gG.tne hx (h2 a ha)⟩
  exact hx (fun x => x ∈ ks) gG.2.1 fun y a hy ha _ => gG.2.2.2 y hy a (h2 a ha)
