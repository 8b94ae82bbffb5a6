/-! Finite closed sets of keys are groups. -/
theorem len_sub : ∀ (a b : List Int), a.Nodup → (∀ x ∈ a, x ∈ b) → a.length ≤ b.length
  | [], _, _, _ => Nat.zero_le _
  | x :: a, b, hn, hs => by
    rw [List.nodup_cons] at hn
    have hx : x ∈ b := hs x List.mem_cons_self
    have h := len_sub a (b.erase x) hn.2 (fun y hy => by
      have hne : y ≠ x := fun e => hn.1 (by rw [← e]; exact hy)
      exact (List.mem_erase_of_ne hne).mpr (hs y (List.mem_cons_of_mem _ hy)))
    rw [List.length_erase_of_mem hx] at h
    have : 0 < b.length := List.length_pos_of_mem hx
    simp only [List.length_cons]
    omega
theorem full_sub {a b : List Int} (hn : a.Nodup) (hs : ∀ x ∈ a, x ∈ b) (hl : b.length ≤ a.length) : ∀ x ∈ b, x ∈ a := by
  intro x hx
  by_cases h : x ∈ a
  · exact h
  · have := len_sub (x :: a) b (List.nodup_cons.mpr ⟨h, hn⟩) (fun y hy => by
      rcases List.mem_cons.mp hy with rfl | hy
      · exact hx
      · exact hs y hy)
    simp only [List.length_cons] at this
    omega
theorem nodup_map_on {f : Int → Int} : ∀ {a : List Int}, a.Nodup → (∀ x ∈ a, ∀ y ∈ a, f x = f y → x = y) → (a.map f).Nodup
  | [], _, _ => List.nodup_nil
  | x :: a, hn, hi => by
    rw [List.nodup_cons] at hn
    rw [List.map_cons, List.nodup_cons]
    refine ⟨fun h => ?_, nodup_map_on hn.2 fun y hy z hz => hi y (List.mem_cons_of_mem _ hy) z (List.mem_cons_of_mem _ hz)⟩
    obtain ⟨y, hy, e⟩ := List.mem_map.mp h
    exact hn.1 (hi y (List.mem_cons_of_mem _ hy) x List.mem_cons_self e ▸ hy)
theorem nodup_lt {a : List Int} (h : a.Pairwise (· < ·)) : a.Nodup := h.imp fun h => Int.ne_of_lt h
theorem lt_ext : ∀ {a b : List Int}, a.Pairwise (· < ·) → b.Pairwise (· < ·) → (∀ x, x ∈ a ↔ x ∈ b) → a = b
  | [], [], _, _, _ => rfl
  | [], y :: b, _, _, h => absurd ((h y).mpr List.mem_cons_self) List.not_mem_nil
  | x :: a, [], _, _, h => absurd ((h x).mp List.mem_cons_self) List.not_mem_nil
  | x :: a, y :: b, ha, hb, h => by
    rw [List.pairwise_cons] at ha hb
    have e : x = y := by
      rcases List.mem_cons.mp ((h x).mp List.mem_cons_self) with e | e
      · exact e
      · rcases List.mem_cons.mp ((h y).mpr List.mem_cons_self) with e2 | e2
        · exact e2.symm
        · have := hb.1 x e
          have := ha.1 y e2
          omega
    subst e
    rw [lt_ext ha.2 hb.2 fun z => ?_]
    constructor
    · intro hz
      rcases List.mem_cons.mp ((h z).mp (List.mem_cons_of_mem _ hz)) with e | e
      · have := ha.1 z hz
        omega
      · exact e
    · intro hz
      rcases List.mem_cons.mp ((h z).mpr (List.mem_cons_of_mem _ hz)) with e | e
      · have := hb.1 z hz
        omega
      · exact e
/-- a set of keys, without order, that is a group -/
def isG (ks : List Int) : Prop := ks.Nodup ∧ u0 ∈ ks ∧ (∀ x ∈ ks, vOK x) ∧ ∀ x ∈ ks, ∀ y ∈ ks, timesK x y ∈ ks
theorem isG.ne {ks : List Int} (h : isG ks) {x : Int} (hx : x ∈ ks) : x ≠ -1 := by
  have := (h.2.2.1 x hx).1.1
  omega
theorem isG.tne {ks : List Int} (h : isG ks) {x y : Int} (hx : x ∈ ks) (hy : y ∈ ks) : timesK x y ≠ -1 := h.ne (h.2.2.2 x hx y hy)
theorem isG.assoc {ks : List Int} (h : isG ks) {x y z : Int} (hx : x ∈ ks) (hy : y ∈ ks) (hz : z ∈ ks) : timesK (timesK x y) z = timesK x (timesK y z) := times_assoc (h.tne hx hy) (h.tne hy hz)
theorem isG.lc {ks : List Int} (h : isG ks) {a x y : Int} (ha : a ∈ ks) (hx : x ∈ ks) (hy : y ∈ ks) (e : timesK a x = timesK a y) : x = y := times_lcancel (h.2.2.1 a ha) (h.2.2.1 x hx).1 (h.2.2.1 y hy).1 (h.tne ha hx) e
theorem isG.rinv {ks : List Int} (h : isG ks) {a : Int} (ha : a ∈ ks) : ∃ b ∈ ks, timesK a b = u0 := by
  have h1 := nodup_map_on (f := timesK a) h.1 fun x hx y hy e => h.lc ha hx hy e
  have h2 := full_sub (b := ks) h1 (fun x hx => by
    obtain ⟨y, hy, rfl⟩ := List.mem_map.mp hx
    exact h.2.2.2 a ha y hy) (by rw [List.length_map]; exact Nat.le_refl _) u0 h.2.1
  obtain ⟨b, hb, e⟩ := List.mem_map.mp h2
  exact ⟨b, hb, e⟩
theorem isG.ul {ks : List Int} (h : isG ks) {a : Int} (ha : a ∈ ks) : timesK u0 a = a := u0_l (h.2.2.1 a ha).1
theorem isG.ur {ks : List Int} (h : isG ks) {a : Int} (ha : a ∈ ks) : timesK a u0 = a := u0_r (h.2.2.1 a ha).1
theorem isG.inv {ks : List Int} (h : isG ks) {a : Int} (ha : a ∈ ks) : ∃ b ∈ ks, timesK a b = u0 ∧ timesK b a = u0 := by
  obtain ⟨b, hb, e⟩ := h.rinv ha
  obtain ⟨c, hc, e2⟩ := h.rinv hb
  have e3 : a = c := by
    have := h.assoc ha hb hc
    rw [e, e2, h.ul hc, h.ur ha] at this
    exact this.symm
  subst e3
  exact ⟨b, hb, e, e2⟩
theorem isG.rc {ks : List Int} (h : isG ks) {a x y : Int} (ha : a ∈ ks) (hx : x ∈ ks) (hy : y ∈ ks) (e : timesK x a = timesK y a) : x = y := by
  obtain ⟨b, hb, e1, e2⟩ := h.inv ha
  have h1 := h.assoc hx ha hb
  have h2 := h.assoc hy ha hb
  rw [e1, h.ur hx] at h1
  rw [e1, h.ur hy] at h2
  rw [← h1, ← h2, e]
/-- what comes of the chosen ones, one behind the other -/
def Reach (g : List Int) (x : Int) : Prop := ∀ S : Int → Prop, S u0 → (∀ y a, S y → a ∈ g → timesK y a ≠ -1 → S (timesK y a)) → S x
theorem Reach.u (g : List Int) : Reach g u0 := fun _ h _ => h
theorem Reach.step {g : List Int} {x a : Int} (h : Reach g x) (ha : a ∈ g) (hn : timesK x a ≠ -1) : Reach g (timesK x a) := fun S h0 h1 => h1 x a (h S h0 h1) ha hn
/-- ks are the OPERATIONS of the GROUP of g -/
def genOK (g ks : List Int) : Prop := ks.Pairwise (· < ·) ∧ ks.length ≤ 192 ∧ (∀ x, x ∈ ks ↔ Reach g x) ∧ ∀ x ∈ ks, ∀ a ∈ g, timesK x a ≠ -1
theorem genOK.uniq {g a b : List Int} (ha : genOK g a) (hb : genOK g b) : a = b := lt_ext ha.1 hb.1 fun x => (ha.2.2.1 x).trans (hb.2.2.1 x).symm
theorem genOK.v {g ks : List Int} (h : genOK g ks) (hg : ∀ a ∈ g, vOK a) : ∀ x ∈ ks, vOK x := fun x hx => (h.2.2.1 x).mp hx vOK u0_v fun y a hy ha hn => vOK_times hy (hg a ha) hn
theorem genOK.isG {g ks : List Int} (h : genOK g ks) (hg : ∀ a ∈ g, vOK a) : isG ks := by
  refine ⟨nodup_lt h.1, (h.2.2.1 u0).mpr (Reach.u g), h.v hg, fun x hx y hy => ?_⟩
  have hv := h.v hg
  refine (((h.2.2.1 y).mp hy) (fun y => y ∈ ks ∧ timesK x y ∈ ks) ⟨(h.2.2.1 u0).mpr (Reach.u g), by rw [u0_r (hv x hx).1]; exact hx⟩ fun y a hy ha hn => ?_).2
  have h1 : timesK x y ≠ -1 := by
    have := (hv _ hy.2).1.1
    omega
  have h2 := times_assoc h1 hn
  have h3 := h.2.2.2 _ hy.2 a ha
  refine ⟨(h.2.2.1 _).mpr (Reach.step ((h.2.2.1 y).mp hy.1) ha hn), ?_⟩
  rw [← h2]
  exact (h.2.2.1 _).mpr (Reach.step ((h.2.2.1 _).mp hy.2) ha h3)
