/-! The reference: generators, signs; pure. -/
def emi (ks : List Int) (f : Nat → Int) (L : List Int) : Prop := ∀ j, j < L.length → ∃ t : Nat, t < ks.length ∧ f j = (t : Int) ∧ ks.getD t (-1) = L.getD j (-1)
theorem emi.sub {ks L : List Int} {f : Nat → Int} (h : emi ks f L) : ∀ x ∈ L, x ∈ ks := fun x hx => by
  obtain ⟨j, hj, rfl⟩ := mem_getD hx
  obtain ⟨t, h1, -, h3⟩ := h j hj
  rw [← h3]
  exact getD_mem h1
theorem emi.push {ks L : List Int} {f : Nat → Int} (h : emi ks f L) {t : Nat} {x : Int} (ht : t < ks.length) (hx : ks.getD t (-1) = x) : emi ks (zu f L.length (t : Int)) (L ++ [x]) := by
  intro j hj
  rw [len_snoc] at hj
  by_cases e : j = L.length
  · subst e
    exact ⟨t, ht, zu_s .., by rw [getD_snoc_r, hx]⟩
  · obtain ⟨s, h1, h2, h3⟩ := h j (by omega)
    exact ⟨s, h1, by rw [zu_n _ _ e]; exact h2, by rw [getD_snoc_l (by omega)]; exact h3⟩
def mkL (ks : List Int) (mk : Nat → Int) (L : List Int) : Prop := ∀ t, t < ks.length → (mk t = 1 ∧ ks.getD t (-1) ∈ L) ∨ (mk t = 0 ∧ ks.getD t (-1) ∉ L)
theorem mkL.push {ks L : List Int} (hs : ks.Pairwise (· < ·)) {mk : Nat → Int} (h : mkL ks mk L) {t : Nat} {x : Int} (ht : t < ks.length) (hx : ks.getD t (-1) = x) : mkL ks (zu mk t 1) (L ++ [x]) := by
  intro s hs2
  by_cases e : s = t
  · subst e
    rw [zu_s]
    exact Or.inl ⟨rfl, List.mem_append_right _ (by rw [hx]; exact List.mem_singleton.mpr rfl)⟩
  · rw [zu_n _ _ e]
    rcases h s hs2 with ⟨a, b⟩ | ⟨a, b⟩
    · exact Or.inl ⟨a, List.mem_append_left _ b⟩
    · refine Or.inr ⟨a, fun q => ?_⟩
      rcases List.mem_append.mp q with q | q
      · exact b q
      · rw [← hx] at q
        exact e (getD_inj hs hs2 ht (List.mem_singleton.mp q))
theorem mkL.start {ks : List Int} (hs : ks.Pairwise (· < ·)) {mk : Nat → Int} (h : ∀ t, t < ks.length → mk t = 0) {e : Nat} (he : e < ks.length) (hu : ks.getD e (-1) = u0) : mkL ks (zu mk e 1) [u0] := by
  have h0 : mkL ks mk [] := fun t ht => Or.inr ⟨h t ht, List.not_mem_nil⟩
  exact h0.push hs he hu
theorem emi.start {ks : List Int} {f : Nat → Int} {e : Nat} (he : e < ks.length) (hu : ks.getD e (-1) = u0) : emi ks (zu f 0 (e : Int)) [u0] := by
  have h0 : emi ks f [] := fun j hj => absurd hj (Nat.not_lt_zero _)
  exact h0.push he hu
theorem sub_len {ks L : List Int} (hn : L.Nodup) (h : ∀ x ∈ L, x ∈ ks) : L.length ≤ ks.length := len_sub _ _ hn h
theorem gen_sub {gs K K' : List Int} {x : Int} (h : genOK gs K) (h' : genOK (gs ++ [x]) K') : ∀ y ∈ K, y ∈ K' := fun y hy => (h'.2.2.1 y).mpr (Reach.mono (fun a ha => List.mem_append_left _ ha) ((h.2.2.1 y).mp hy))
theorem gen_same {gs K K' : List Int} {x : Int} (hx : vOK x) (h : genOK gs K) (h' : genOK (gs ++ [x]) K') (e : K'.length = K.length) : x ∈ K := by
  refine full_sub (nodup_lt h.1) (gen_sub h h') (by omega) x ((h'.2.2.1 x).mpr ?_)
  have hn : timesK u0 x ≠ -1 := by
    rw [u0_l hx.1]
    have := hx.1.1
    omega
  have := Reach.step (Reach.u (gs ++ [x])) (List.mem_append_right gs (List.mem_singleton.mpr rfl)) hn
  rw [u0_l hx.1] at this
  exact this
theorem grp_double {K K' : List Int} (hK : isG K) (hK' : isG K') (hs : ∀ y ∈ K, y ∈ K') (hne : K'.length ≠ K.length) : 2 * K.length ≤ K'.length := by
  have hl := len_sub K K' hK.1 hs
  obtain ⟨y, hy, hyn⟩ : ∃ y, y ∈ K' ∧ y ∉ K := by
    apply Classical.byContradiction
    intro hc
    have := len_sub K' K hK'.1 (fun y hy => Classical.byContradiction fun q => hc ⟨y, hy, q⟩)
    omega
  have h1 : (K ++ K.map (fun a => timesK y a)).Nodup := by
    rw [List.nodup_append]
    refine ⟨hK.1, nodup_map_on hK.1 (fun a ha b hb e => hK'.lc hy (hs a ha) (hs b hb) e), fun a ha b hb e => ?_⟩
    obtain ⟨c, hc, rfl⟩ := List.mem_map.mp hb
    obtain ⟨ci, hci, e1, e2⟩ := hK.inv hc
    have h2 := hK'.assoc hy (hs c hc) (hs ci hci)
    rw [e1, hK'.ur hy, ← e] at h2
    exact hyn (h2 ▸ hK.2.2.2 a ha ci hci)
  have h2 := len_sub _ K' h1 (fun z hz => by
    rcases List.mem_append.mp hz with q | q
    · exact hs z q
    · obtain ⟨c, hc, rfl⟩ := List.mem_map.mp q
      exact hK'.2.2.2 y hy c (hs c hc))
  rw [List.length_append, List.length_map] at h2
  omega
/-- a half, by its places: it and the rest -/
def chiB (ks : List Int) (S : Nat → Prop) : Prop := ∀ x y z, x < ks.length → y < ks.length → z < ks.length → timesK (ks.getD x (-1)) (ks.getD y (-1)) = ks.getD z (-1) → (S z ↔ (S x ↔ S y))
def gSg (ks gs : List Int) (ch : Nat) (S : Nat → Prop) : Prop := ∀ i s, i < gs.length → s < ks.length → ks.getD s (-1) = gs.getD i (-1) → (S s ↔ ch.testBit i = false)
theorem chiB.u {ks : List Int} (h : isG ks) {S : Nat → Prop} (hS : chiB ks S) {e : Nat} (he : e < ks.length) (hu : ks.getD e (-1) = u0) : S e := by
  have := hS e e e he he he (by rw [hu]; exact h.ul h.2.1)
  exact this.mpr Iff.rfl
def mk2L (ks : List Int) (mk : Nat → Int) (L : List Int) : Prop := ∀ t, t < ks.length → ((mk t = 1 ∨ mk t = 2) ∧ ks.getD t (-1) ∈ L) ∨ (mk t = 0 ∧ ks.getD t (-1) ∉ L)
def flp (ch i : Nat) (v : Int) : Int := if ch.testBit i = false then v else 3 - v
/-- what has been looked at goes together -/
def coL (ks gs L : List Int) (ch : Nat) (mk : Nat → Int) (k i : Nat) : Prop := ∀ j r t s, ((j < k ∧ r < gs.length) ∨ (j = k ∧ r < i)) → j < L.length → t < ks.length → s < ks.length → ks.getD t (-1) = L.getD j (-1) → ks.getD s (-1) = gs.getD r (-1) → mk (tix ks t s) = flp ch r (mk t)
def sdL (ks gs : List Int) (ch : Nat) (mk : Nat → Int) : Prop := ∀ S, chiB ks S → gSg ks gs ch S → ∀ t, t < ks.length → mk t ≠ 0 → (mk t = 1 ↔ S t)
theorem mk2L.push {ks L : List Int} (hs : ks.Pairwise (· < ·)) {mk : Nat → Int} (h : mk2L ks mk L) {t : Nat} {x v : Int} (ht : t < ks.length) (hx : ks.getD t (-1) = x) (hv : v = 1 ∨ v = 2) : mk2L ks (zu mk t v) (L ++ [x]) := by
  intro s hs2
  by_cases e : s = t
  · subst e
    rw [zu_s]
    exact Or.inl ⟨hv, List.mem_append_right _ (by rw [hx]; exact List.mem_singleton.mpr rfl)⟩
  · rw [zu_n _ _ e]
    rcases h s hs2 with ⟨a, b⟩ | ⟨a, b⟩
    · exact Or.inl ⟨a, List.mem_append_left _ b⟩
    · refine Or.inr ⟨a, fun q => ?_⟩
      rcases List.mem_append.mp q with q | q
      · exact b q
      · rw [← hx] at q
        exact e (getD_inj hs hs2 ht (List.mem_singleton.mp q))
theorem mk2L.start {ks : List Int} (hs : ks.Pairwise (· < ·)) {mk : Nat → Int} (h : ∀ t, t < ks.length → mk t = 0) {e : Nat} (he : e < ks.length) (hu : ks.getD e (-1) = u0) : mk2L ks (zu mk e 1) [u0] := by
  have h0 : mk2L ks mk [] := fun t ht => Or.inr ⟨h t ht, List.not_mem_nil⟩
  exact h0.push hs he hu (Or.inl rfl)
theorem sdL.start {ks gs : List Int} (hG : isG ks) {ch : Nat} {mk : Nat → Int} (h : ∀ t, t < ks.length → mk t = 0) {e : Nat} (he : e < ks.length) (hu : ks.getD e (-1) = u0) : sdL ks gs ch (zu mk e 1) := by
  intro S hS _ t ht hm
  by_cases g : t = e
  · subst g
    rw [zu_s]
    exact ⟨fun _ => hS.u hG he hu, fun _ => rfl⟩
  · rw [zu_n _ _ g] at hm
    exact absurd (h t ht) hm
theorem flp_in {ch i : Nat} {v : Int} (h : v = 1 ∨ v = 2) : flp ch i v = 1 ∨ flp ch i v = 2 := by
  unfold flp
  split <;> omega
/-- the sign that the next must have -/
theorem sd_next {ks gs : List Int} (hG : isG ks) {ch : Nat} {mk : Nat → Int} (h : sdL ks gs ch mk) {S : Nat → Prop} (hS : chiB ks S) (hg : gSg ks gs ch S) {t s i : Nat} (ht : t < ks.length) (hs : s < ks.length) (hi : i < gs.length) (e : ks.getD s (-1) = gs.getD i (-1)) (hm : mk t = 1 ∨ mk t = 2) : flp ch i (mk t) = 1 ↔ S (tix ks t s) := by
  obtain ⟨x1, x2⟩ := tix_ok hG ht hs
  have h1 := hS t s (tix ks t s) ht hs x1 x2.symm
  have h2 := h S hS hg t ht (by omega)
  have h3 := hg i s hi hs e
  rw [h1, ← h2, h3]
  unfold flp
  by_cases q : ch.testBit i = false
  · rw [if_pos q]
    simp [q]
  · rw [if_neg q]
    simp only [q]
    constructor
    · intro r
      exact ⟨fun r2 => by omega, fun r2 => absurd r2 (by simp)⟩
    · intro r
      rcases hm with r2 | r2
      · exact absurd (r.mp r2) (by simp)
      · omega
theorem sdL.push {ks gs : List Int} (hG : isG ks) {ch : Nat} {mk : Nat → Int} (h : sdL ks gs ch mk) {t s i : Nat} (ht : t < ks.length) (hs : s < ks.length) (hi : i < gs.length) (e : ks.getD s (-1) = gs.getD i (-1)) (hm : mk t = 1 ∨ mk t = 2) : sdL ks gs ch (zu mk (tix ks t s) (flp ch i (mk t))) := by
  intro S hS hg r hr hmr
  by_cases g : r = tix ks t s
  · subst g
    rw [zu_s]
    exact sd_next hG h hS hg ht hs hi e hm
  · rw [zu_n _ _ g] at hmr ⊢
    exact h S hS hg r hr hmr
theorem sdL.clash {ks gs : List Int} (hG : isG ks) {ch : Nat} {mk : Nat → Int} (h : sdL ks gs ch mk) {t s i : Nat} (ht : t < ks.length) (hs : s < ks.length) (hi : i < gs.length) (e : ks.getD s (-1) = gs.getD i (-1)) (hm : mk t = 1 ∨ mk t = 2) (hx : mk (tix ks t s) = 1 ∨ mk (tix ks t s) = 2) (hne : mk (tix ks t s) ≠ flp ch i (mk t)) : ¬ ∃ S, chiB ks S ∧ gSg ks gs ch S := by
  rintro ⟨S, hS, hg⟩
  have h1 := sd_next hG h hS hg ht hs hi e hm
  have h2 := h S hS hg (tix ks t s) (tix_ok hG ht hs).1 (by omega)
  have h3 := flp_in (ch := ch) (i := i) hm
  have h4 : mk (tix ks t s) = 1 ↔ flp ch i (mk t) = 1 := h2.trans h1.symm
  omega
theorem coL.push {ks gs L : List Int} (hG : isG ks) (hs : ks.Pairwise (· < ·)) {ch : Nat} {mk : Nat → Int} {k i : Nat} (h : coL ks gs L ch mk k i) (hg : ∀ a ∈ gs, a ∈ ks) (hL : ∀ x ∈ L, x ∈ ks) (h2 : mk2L ks mk L) (hcl : ∀ j r, ((j < k ∧ r < gs.length) ∨ (j = k ∧ r < i)) → j < L.length → timesK (L.getD j (-1)) (gs.getD r (-1)) ∈ L) (hi : i < gs.length) (hk : k < L.length) {t s : Nat} (ht : t < ks.length) (hs2 : s < ks.length) (et : ks.getD t (-1) = L.getD k (-1)) (es : ks.getD s (-1) = gs.getD i (-1)) (hx : ks.getD (tix ks t s) (-1) ∉ L) : coL ks gs (L ++ [ks.getD (tix ks t s) (-1)]) ch (zu mk (tix ks t s) (flp ch i (mk t))) k (i + 1) := by
  intro j r t2 s2 hjr hj ht2 hs3 e1 e2
  obtain ⟨x1, x2⟩ := tix_ok hG ht hs2
  have hjl : j < L.length := by omega
  rw [getD_snoc_l hjl] at e1
  have hmt : ∀ u, u < ks.length → ks.getD u (-1) ∈ L → zu mk (tix ks t s) (flp ch i (mk t)) u = mk u := fun u hu q => zu_n _ _ (fun e9 => hx (e9 ▸ q))
  have ht2L : ks.getD t2 (-1) ∈ L := by rw [e1]; exact getD_mem hjl
  rw [hmt t2 ht2 ht2L]
  by_cases q : (j < k ∧ r < gs.length) ∨ (j = k ∧ r < i)
  · obtain ⟨y1, y2⟩ := tix_ok hG ht2 hs3
    rw [hmt _ y1 (by rw [y2, e1, e2]; exact hcl j r q hjl)]
    exact h j r t2 s2 q hjl ht2 hs3 e1 e2
  · have hjk : j = k ∧ r = i := by omega
    obtain ⟨rfl, rfl⟩ := hjk
    have a1 : t2 = t := getD_inj hs ht2 ht (e1.trans et.symm)
    have a2 : s2 = s := getD_inj hs hs3 hs2 (e2.trans es.symm)
    rw [a1, a2, zu_s]
theorem coL.keep {ks gs L : List Int} (hs : ks.Pairwise (· < ·)) {ch : Nat} {mk : Nat → Int} {k i : Nat} (h : coL ks gs L ch mk k i) {t s : Nat} (ht : t < ks.length) (hs2 : s < ks.length) (et : ks.getD t (-1) = L.getD k (-1)) (es : ks.getD s (-1) = gs.getD i (-1)) (e : mk (tix ks t s) = flp ch i (mk t)) : coL ks gs L ch mk k (i + 1) := by
  intro j r t2 s2 hjr hj ht2 hs3 e1 e2
  by_cases q : (j < k ∧ r < gs.length) ∨ (j = k ∧ r < i)
  · exact h j r t2 s2 q hj ht2 hs3 e1 e2
  · have hjk : j = k ∧ r = i := by omega
    obtain ⟨rfl, rfl⟩ := hjk
    have a1 : t2 = t := getD_inj hs ht2 ht (e1.trans et.symm)
    have a2 : s2 = s := getD_inj hs hs3 hs2 (e2.trans es.symm)
    rw [a1, a2]
    exact e
theorem coL.next {ks gs L : List Int} {ch : Nat} {mk : Nat → Int} {k i : Nat} (h : coL ks gs L ch mk k i) (hi : gs.length ≤ i) : coL ks gs L ch mk (k + 1) 0 := fun j r t s hjr => h j r t s (by omega)
theorem chi_of {ks gs L : List Int} (hG : isG ks) (hs : ks.Pairwise (· < ·)) (hg : ∀ a ∈ gs, a ∈ ks) (hall : ∀ x ∈ ks, Reach gs x) {ch : Nat} {mk : Nat → Int} (h2 : mk2L ks mk L) (hc : coL ks gs L ch mk L.length 0) (hL : ∀ x ∈ ks, x ∈ L) {e : Nat} (he : e < ks.length) (hu : ks.getD e (-1) = u0) (hme : mk e = 1) : chiB ks (fun t => mk t = 1) ∧ (∀ t, t < ks.length → mk t = 1 ∨ mk t = 2) ∧ gSg ks gs ch (fun t => mk t = 1) := by
  have h12 : ∀ t, t < ks.length → mk t = 1 ∨ mk t = 2 := fun t ht => by
    rcases h2 t ht with ⟨q, _⟩ | ⟨_, q⟩
    · exact q
    · exact absurd (hL _ (getD_mem ht)) q
  have step : ∀ t s r, t < ks.length → s < ks.length → r < gs.length → ks.getD s (-1) = gs.getD r (-1) → mk (tix ks t s) = flp ch r (mk t) := fun t s r ht hs2 hr e1 => by
    obtain ⟨j, hj, ej⟩ := mem_getD (hL _ (getD_mem ht))
    exact hc j r t s (Or.inl ⟨hj, hr⟩) hj ht hs2 ej.symm e1
  have hgen : gSg ks gs ch (fun t => mk t = 1) := fun i s hi hs2 e1 => by
    have q1 := step e s i he hs2 hi e1
    obtain ⟨x1, x2⟩ := tix_ok hG he hs2
    have q2 : tix ks e s = s := getD_inj hs x1 hs2 (by rw [x2, hu, hG.ul (getD_mem hs2)])
    rw [q2, hme] at q1
    show mk s = 1 ↔ _
    rw [q1]
    unfold flp
    split
    · rename_i g; simp [g]
    · rename_i g; simp [g]
  refine ⟨?_, h12, hgen⟩
  have key : ∀ y ∈ ks, ∀ x z, x < ks.length → z < ks.length → timesK (ks.getD x (-1)) y = ks.getD z (-1) → ∀ yi, yi < ks.length → ks.getD yi (-1) = y → (mk z = 1 ↔ (mk x = 1 ↔ mk yi = 1)) := by
    intro y hy
    refine (hall y hy (fun y => y ∈ ks ∧ ∀ x z, x < ks.length → z < ks.length → timesK (ks.getD x (-1)) y = ks.getD z (-1) → ∀ yi, yi < ks.length → ks.getD yi (-1) = y → (mk z = 1 ↔ (mk x = 1 ↔ mk yi = 1))) ⟨hG.2.1, ?_⟩ ?_).2
    · intro x z hx hz e1 yi hyi e2
      rw [hG.ur (getD_mem hx)] at e1
      have a1 := getD_inj hs hx hz e1
      have a2 := getD_inj hs hyi he (e2.trans hu.symm)
      rw [a1, a2, hme]
      simp
    · intro y a hy ha hn
      obtain ⟨hyk, hP⟩ := hy
      have hak := hg a ha
      refine ⟨hG.2.2.2 y hyk a hak, fun x z hx hz e1 yi hyi e2 => ?_⟩
      obtain ⟨yj, hyj, ey⟩ := mem_getD hyk
      obtain ⟨s, hs2, es⟩ := mem_getD hak
      obtain ⟨r, hr, er⟩ := mem_getD ha
      obtain ⟨w1, w2⟩ := tix_ok hG hx hyj
      have q1 := hP x (tix ks x yj) hx w1 (by rw [w2, ey]) yj hyj ey
      have q2 := step (tix ks x yj) s r w1 hs2 hr (es.trans er.symm)
      have q3 := step yj s r hyj hs2 hr (es.trans er.symm)
      obtain ⟨v1, v2⟩ := tix_ok hG w1 hs2
      obtain ⟨u1, u2⟩ := tix_ok hG hyj hs2
      have b1 : tix ks (tix ks x yj) s = z := getD_inj hs v1 hz (by rw [v2, w2, ey, es, hG.assoc (getD_mem hx) hyk hak, e1])
      have b2 : tix ks yj s = yi := getD_inj hs u1 hyi (by rw [u2, ey, es, e2])
      rw [b1] at q2
      rw [b2] at q3
      rw [q2, q3]
      have c1 := h12 _ w1
      have c2 := h12 _ hyj
      have c3 := h12 _ hx
      generalize mk (tix ks x yj) = p1 at *
      generalize mk yj = p2 at *
      generalize mk x = p3 at *
      unfold flp
      split <;> rcases c1 with rfl | rfl <;> rcases c2 with rfl | rfl <;> rcases c3 with rfl | rfl <;> simp_all
  intro x y z hx hy hz e1
  exact key _ (getD_mem hy) x z hx hz e1 y hy rfl
theorem sh_bit : ∀ c i : Nat, c < 128 → i < 8 → iI (c : Int) >>> (iI (i : Int) &&& 31) = iI ((c / 2 ^ i : Nat) : Int) ∧ iI ((c / 2 ^ i : Nat) : Int) &&& iI 1 = iI ((c / 2 ^ i % 2 : Nat) : Int) := by
  intro c i hc hi
  have h := (by decide +kernel : ∀ c, c < 128 → ∀ i, i < 8 → iI ((c : Nat) : Int) >>> (iI ((i : Nat) : Int) &&& 31) = iI ((c / 2 ^ i : Nat) : Int) ∧ iI ((c / 2 ^ i : Nat) : Int) &&& iI 1 = iI ((c / 2 ^ i % 2 : Nat) : Int))
  exact h c hc i hi
theorem bit_0 {c i : Nat} : ((c / 2 ^ i % 2 : Nat) : Int) = 0 ↔ c.testBit i = false := by
  rw [Nat.testBit_eq_decide_div_mod_eq]
  simp only [decide_eq_false_iff_not]
  omega
theorem sh_1 : ∀ m : Nat, m < 8 → iI 1 <<< (iI (m : Int) &&& 31) = iI ((2 ^ m : Nat) : Int) := by decide +kernel
theorem flp_t {ch i : Nat} {v : Int} (h : ch.testBit i = false) : v = flp ch i v := by unfold flp; rw [if_pos h]
theorem flp_f {ch i : Nat} {v : Int} (h : ¬ ch.testBit i = false) : 3 - v = flp ch i v := by unfold flp; rw [if_neg h]
