/-! ALIKE: sets that are joined by generators. -/
noncomputable def cnt (p : Nat → Prop) : Nat → Nat
  | 0 => 0
  | n + 1 => cnt p n + @ite Nat (p n) (Classical.propDecidable _) 1 0
theorem cnt_t {p : Nat → Prop} {n : Nat} (h : p n) : cnt p (n + 1) = cnt p n + 1 := by
  show cnt p n + @ite Nat (p n) (Classical.propDecidable _) 1 0 = _
  rw [if_pos h]
theorem cnt_f {p : Nat → Prop} {n : Nat} (h : ¬ p n) : cnt p (n + 1) = cnt p n := by
  show cnt p n + @ite Nat (p n) (Classical.propDecidable _) 1 0 = _
  rw [if_neg h]
  rfl
theorem cnt_congr {p q : Nat → Prop} : ∀ {n : Nat}, (∀ i, i < n → (p i ↔ q i)) → cnt p n = cnt q n
  | 0, _ => rfl
  | n + 1, h => by
    have ih := cnt_congr (p := p) (q := q) (n := n) fun i hi => h i (by omega)
    by_cases hp : p n
    · rw [cnt_t hp, cnt_t ((h n (by omega)).mp hp), ih]
    · rw [cnt_f hp, cnt_f (fun q => hp ((h n (by omega)).mpr q)), ih]
theorem cnt_le {p : Nat → Prop} : ∀ n : Nat, cnt p n ≤ n
  | 0 => Nat.le_refl _
  | n + 1 => by
    have ih := cnt_le (p := p) n
    by_cases hp : p n
    · rw [cnt_t hp]; omega
    · rw [cnt_f hp]; omega
theorem cnt_one {p q : Nat → Prop} {k : Nat} : ∀ {n : Nat}, k < n → p k → ¬ q k → (∀ i, i < n → i ≠ k → (p i ↔ q i)) → cnt p n = cnt q n + 1
  | 0, h, _, _, _ => absurd h (Nat.not_lt_zero _)
  | n + 1, h, h1, h2, h3 => by
    rcases Nat.lt_or_ge k n with a | a
    · have ih := cnt_one (n := n) a h1 h2 fun i hi hk => h3 i (by omega) hk
      by_cases hp : p n
      · rw [cnt_t hp, cnt_t ((h3 n (by omega) (by omega)).mp hp), ih]
      · rw [cnt_f hp, cnt_f (fun q => hp ((h3 n (by omega) (by omega)).mpr q)), ih]
    · obtain rfl : k = n := by omega
      rw [cnt_t h1, cnt_f h2, cnt_congr fun i hi => h3 i (by omega) (by omega)]
/-- ALIKE -/
def alk (ks : List Int) (i j : Nat) : Prop := ∃ c ∈ ks, timesK c (ks.getD i (-1)) = timesK (ks.getD j (-1)) c
theorem alk_refl {ks : List Int} (h : isG ks) {i : Nat} (hi : i < ks.length) : alk ks i i := ⟨u0, h.2.1, by rw [h.ul (getD_mem hi), h.ur (getD_mem hi)]⟩
theorem alk_symm {ks : List Int} (h : isG ks) {i j : Nat} (hi : i < ks.length) (hj : j < ks.length) (ha : alk ks i j) : alk ks j i := by
  obtain ⟨c, hc, e⟩ := ha
  obtain ⟨d, hd, e1, e2⟩ := h.inv hc
  have mi := getD_mem hi
  have mj := getD_mem hj
  refine ⟨d, hd, ?_⟩
  -- d b = d b c d = d c a d = a d
  have h1 : timesK d (ks.getD j (-1)) = timesK (timesK d (timesK (ks.getD j (-1)) c)) d := by
    rw [h.assoc hd (h.2.2.2 _ mj _ hc) hd, h.assoc mj hc hd, e1, h.ur mj]
  rw [h1, ← e, ← h.assoc hd hc mi, e2, h.ul mi]
theorem alk_trans {ks : List Int} (h : isG ks) {i j k : Nat} (hi : i < ks.length) (hj : j < ks.length) (hk : k < ks.length) (h1 : alk ks i j) (h2 : alk ks j k) : alk ks i k := by
  obtain ⟨c, hc, e⟩ := h1
  obtain ⟨d, hd, e2⟩ := h2
  have mi := getD_mem hi
  have mj := getD_mem hj
  have mk := getD_mem hk
  refine ⟨timesK d c, h.2.2.2 _ hd _ hc, ?_⟩
  rw [h.assoc hd hc mi, e, ← h.assoc hd mj hc, e2, h.assoc mk hd hc]
def inN (n : Nat) (so : Nat → Int) : Prop := ∀ i, i < n → 0 ≤ so i ∧ so i < (n : Int)
/-- how many values there are -/
noncomputable def nval (n : Nat) (so : Nat → Int) : Nat := cnt (fun v => ∃ i, i < n ∧ so i = (v : Int)) n
def jn (so : Nat → Int) (a b : Nat) : Nat → Int := fun i => if so i = so b then so a else so i
theorem nval_congr {n : Nat} {so so' : Nat → Int} (h : ∀ i, i < n → so' i = so i) : nval n so' = nval n so :=
  cnt_congr fun v _ => ⟨fun ⟨i, hi, e⟩ => ⟨i, hi, by rw [← h i hi]; exact e⟩, fun ⟨i, hi, e⟩ => ⟨i, hi, by rw [h i hi]; exact e⟩⟩
theorem jn_val {n : Nat} {so so' : Nat → Int} {a b : Nat} (ha : a < n) (hb : b < n) (hr : inN n so) (hne : so a ≠ so b) (h : ∀ i, i < n → so' i = jn so a b i) : nval n so = nval n so' + 1 := by
  have hb2 := hr b hb
  refine cnt_one (k := (so b).toNat) (by omega) ⟨b, hb, by omega⟩ ?_ ?_
  · rintro ⟨i, hi, e⟩
    rw [h i hi] at e
    unfold jn at e
    by_cases q : so i = so b
    · rw [if_pos q] at e; omega
    · rw [if_neg q] at e; omega
  · intro v hv hk
    constructor
    · rintro ⟨i, hi, e⟩
      by_cases q : so i = so b
      · omega
      · exact ⟨i, hi, by rw [h i hi]; unfold jn; rw [if_neg q]; exact e⟩
    · rintro ⟨i, hi, e⟩
      rw [h i hi] at e
      unfold jn at e
      by_cases q : so i = so b
      · rw [if_pos q] at e; exact ⟨a, ha, e⟩
      · rw [if_neg q] at e; exact ⟨i, hi, e⟩
/-- the first ones of their values -/
noncomputable def nfst (n : Nat) (so : Nat → Int) : Nat := cnt (fun a => ∀ b, b < a → so b ≠ so a) n
theorem nval_pre {n : Nat} {so : Nat → Int} (hr : inN n so) : ∀ m, m ≤ n → cnt (fun v => ∃ i, i < m ∧ so i = (v : Int)) n = nfst m so
  | 0, _ => by
    have : ∀ k : Nat, cnt (fun v => ∃ i, i < 0 ∧ so i = (v : Int)) k = 0 := by
      intro k
      induction k with
      | zero => rfl
      | succ k ih => rw [cnt_f (by rintro ⟨i, hi, _⟩; omega), ih]
    exact this n
  | m + 1, hm => by
    have ih := nval_pre hr m (by omega)
    have hm2 := hr m (by omega)
    by_cases hnew : ∀ b, b < m → so b ≠ so m
    · have e : nfst (m + 1) so = nfst m so + 1 := cnt_t hnew
      rw [e, ← ih]
      refine cnt_one (k := (so m).toNat) (by omega) ⟨m, by omega, by omega⟩ ?_ ?_
      · rintro ⟨i, hi, e⟩
        exact hnew i hi (by omega)
      · intro v hv hk
        constructor
        · rintro ⟨i, hi, e⟩
          refine ⟨i, ?_, e⟩
          rcases Nat.lt_or_ge i m with q | q
          · exact q
          · obtain rfl : i = m := by omega
            omega
        · rintro ⟨i, hi, e⟩
          exact ⟨i, by omega, e⟩
    · have e : nfst (m + 1) so = nfst m so := cnt_f hnew
      rw [e, ← ih]
      clear e
      refine cnt_congr fun v hv => ⟨fun ⟨i, hi, ev⟩ => ?_, fun ⟨i, hi, ev⟩ => ⟨i, by omega, ev⟩⟩
      rcases Nat.lt_or_ge i m with q | q
      · exact ⟨i, q, ev⟩
      · obtain rfl : i = m := by omega
        have : ∃ b, b < i ∧ so b = so i := by
          apply Classical.byContradiction
          intro hn
          exact hnew fun b hb hq => hn ⟨b, hb, hq⟩
        obtain ⟨b, hb, hq⟩ := this
        exact ⟨b, hb, by rw [hq]; exact ev⟩
theorem nval_nfst {n : Nat} {so : Nat → Int} (hr : inN n so) : nval n so = nfst n so := nval_pre hr n (Nat.le_refl _)
theorem nval_id (n : Nat) : ∀ so : Nat → Int, (∀ i, i < n → so i = (i : Int)) → nval n so = n := by
  intro so h
  have : ∀ m, m ≤ n → cnt (fun v => ∃ i, i < n ∧ so i = (v : Int)) m = m := by
    intro m
    induction m with
    | zero => intro _; rfl
    | succ m ih => intro hm; rw [cnt_t ⟨m, by omega, h m (by omega)⟩, ih (by omega)]
  exact this n (Nat.le_refl _)
/-- how many sets of ALIKE ones; how many are ALIKE to one -/
noncomputable def nAlk (ks : List Int) : Nat := cnt (fun a => ∀ b, b < a → ¬ alk ks b a) ks.length
noncomputable def mAlk (ks : List Int) (k : Nat) : Nat := cnt (fun i => alk ks i k) ks.length
/-- the sets, as far as they are joined -/
def ASt (ks : List Int) (so : Nat → Int) (ct : Int) : Prop := inN ks.length so ∧ ct = (nval ks.length so : Int) ∧ ∀ i j, i < ks.length → j < ks.length → so i = so j → alk ks i j
theorem ASt.join {ks : List Int} (hG : isG ks) {so so' : Nat → Int} {ct : Int} (h : ASt ks so ct) {a b : Nat} (ha : a < ks.length) (hb : b < ks.length) (hab : alk ks a b) (hne : so a ≠ so b) (h' : ∀ i, i < ks.length → so' i = jn so a b i) : ASt ks so' (ct - 1) := by
  obtain ⟨h1, h2, h3⟩ := h
  have hv := jn_val ha hb h1 hne h'
  refine ⟨fun i hi => ?_, by omega, fun i j hi hj e => ?_⟩
  · rw [h' i hi]
    unfold jn
    split
    · exact h1 a ha
    · exact h1 i hi
  · rw [h' i hi, h' j hj] at e
    unfold jn at e
    by_cases q : so i = so b
    · have ib := h3 i b hi hb q
      rw [if_pos q] at e
      by_cases q2 : so j = so b
      · exact alk_trans hG hi hb hj ib (alk_symm hG hj hb (h3 j b hj hb q2))
      · rw [if_neg q2] at e
        exact alk_trans hG hi hb hj ib (alk_trans hG hb ha hj (alk_symm hG ha hb hab) (h3 a j ha hj e))
    · rw [if_neg q] at e
      by_cases q2 : so j = so b
      · rw [if_pos q2] at e
        exact alk_trans hG hi ha hj (h3 i a hi ha e) (alk_trans hG ha hb hj hab (alk_symm hG hj hb (h3 j b hj hb q2)))
      · rw [if_neg q2] at e
        exact h3 i j hi hj e
theorem jn_mono {so so' : Nat → Int} {a b n : Nat} (h : ∀ i, i < n → so' i = jn so a b i) {i j : Nat} (hi : i < n) (hj : j < n) (e : so i = so j) : so' i = so' j := by
  rw [h i hi, h j hj]
  unfold jn
  rw [e]
theorem jn_eq {so so' : Nat → Int} {a b n : Nat} (h : ∀ i, i < n → so' i = jn so a b i) (ha : a < n) (hb : b < n) : so' a = so' b := by
  rw [h a ha, h b hb]
  unfold jn
  rw [if_pos rfl]
  split <;> rfl
/-- joined by all generators: joined by all -/
theorem alk_all {ks gs : List Int} (hG : isG ks) (hr : ∀ x ∈ ks, Reach gs x) (hg : ∀ a ∈ gs, a ∈ ks) {so : Nat → Int} (hs : ks.Nodup) (h : ∀ c ∈ gs, ∀ a b, a < ks.length → b < ks.length → timesK c (ks.getD a (-1)) = timesK (ks.getD b (-1)) c → so a = so b) : ∀ i j, i < ks.length → j < ks.length → alk ks i j → so i = so j := by
  have key : ∀ c ∈ ks, ∀ a b, a < ks.length → b < ks.length → timesK c (ks.getD a (-1)) = timesK (ks.getD b (-1)) c → so a = so b := by
    intro c hc
    refine (hr c hc (fun c => c ∈ ks ∧ ∀ a b, a < ks.length → b < ks.length → timesK c (ks.getD a (-1)) = timesK (ks.getD b (-1)) c → so a = so b) ⟨hG.2.1, fun a b ha hb e => ?_⟩ fun y g hy hgm hn => ⟨hG.2.2.2 _ hy.1 _ (hg g hgm), fun a b ha hb e => ?_⟩).2
    · rw [hG.ul (getD_mem ha), hG.ur (getD_mem hb)] at e
      rw [getD_nd hs ha hb e]
    · have hgk := hg g hgm
      obtain ⟨d, hd, e1, e2⟩ := hG.inv hgk
      have ma := getD_mem ha
      have mb := getD_mem hb
      obtain ⟨a', ha', ea⟩ := mem_getD (hG.2.2.2 _ (hG.2.2.2 _ hgk _ ma) _ hd)
      have f1 : timesK g (ks.getD a (-1)) = timesK (ks.getD a' (-1)) g := by
        rw [ea, hG.assoc (hG.2.2.2 _ hgk _ ma) hd hgk, e2, hG.ur (hG.2.2.2 _ hgk _ ma)]
      rw [h g hgm a a' ha ha' f1]
      refine hy.2 a' b ha' hb ?_
      have ma' := getD_mem ha'
      refine hG.rc hgk (hG.2.2.2 _ hy.1 _ ma') (hG.2.2.2 _ mb _ hy.1) ?_
      rw [hG.assoc hy.1 ma' hgk, ← f1, ← hG.assoc hy.1 hgk ma, e, hG.assoc mb hy.1 hgk]
  intro i j hi hj ⟨c, hc, e⟩
  exact key c hc i j hi hj e
theorem isG.gen {ks : List Int} (h : isG ks) (hs : ks.Pairwise (· < ·)) (hl : ks.length ≤ 192) : genOK ks ks := by
  refine ⟨hs, hl, fun x => ⟨fun hx => ?_, fun hx => ?_⟩, fun x hx a ha => h.tne hx ha⟩
  · have := Reach.step (Reach.u ks) hx (by rw [h.ul hx]; exact h.ne hx)
    rw [h.ul hx] at this
    exact this
  · exact hx (fun x => x ∈ ks) h.2.1 fun y a hy ha _ => h.2.2.2 y hy a ha
