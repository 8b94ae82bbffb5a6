/-! The reference: how often an OPERATION is done till all is left; what its calls answer; pure. -/
theorem powK_sg {ks : List Int} (h : isG ks) {x : Int} (hx : x ∈ ks) (n : Nat) : powK x (n + 1) = timesK (powK x n) x := by
  cases n with
  | zero => exact (h.ul hx).symm
  | succ n => rfl
theorem powK_in {ks : List Int} (h : isG ks) {x : Int} (hx : x ∈ ks) : ∀ n, powK x n ∈ ks
  | 0 => h.2.1
  | n + 1 => by
    rw [powK_sg h hx n]
    exact h.2.2.2 _ (powK_in h hx n) x hx
theorem powK_add {ks : List Int} (h : isG ks) {x : Int} (hx : x ∈ ks) (a : Nat) : ∀ b, powK x (a + b) = timesK (powK x a) (powK x b)
  | 0 => by
    show powK x a = timesK (powK x a) u0
    rw [h.ur (powK_in h hx a)]
  | b + 1 => by
    rw [← Nat.add_assoc, powK_sg h hx (a + b), powK_sg h hx b, powK_add h hx a b, h.assoc (powK_in h hx a) (powK_in h hx b) hx]
theorem pow_end {ks : List Int} (h : isG ks) {x : Int} (hx : x ∈ ks) : ∃ d, 1 ≤ d ∧ d ≤ ks.length ∧ powK x d = u0 := by
  apply Classical.byContradiction
  intro hc
  have hnd : ((List.range (ks.length + 1)).map (powK x)).Nodup := by
    show List.Pairwise _ _
    rw [List.pairwise_map, List.pairwise_iff_getElem]
    intro i j hi hj hij e
    rw [List.getElem_range, List.getElem_range] at e
    rw [List.length_range] at hj
    refine hc ⟨j - i, by omega, by omega, ?_⟩
    have h1 := powK_add h hx (j - i) i
    rw [show j - i + i = j by omega, ← e] at h1
    refine h.rc (powK_in h hx i) (powK_in h hx (j - i)) h.2.1 ?_
    rw [← h1, h.ul (powK_in h hx i)]
  have := len_sub _ ks hnd (fun y hy => by
    obtain ⟨n, _, rfl⟩ := List.mem_map.mp hy
    exact powK_in h hx n)
  rw [List.length_map, List.length_range] at this
  omega
def ordR (k z : Int) : Prop := 1 ≤ z ∧ powK k z.toNat = u0 ∧ ∀ j : Nat, 1 ≤ j → (j : Int) < z → powK k j ≠ u0
theorem mAlk_pos {ks : List Int} (h : isG ks) {k : Nat} (hk : k < ks.length) : 1 ≤ mAlk ks k := by
  unfold mAlk
  have := cnt_one (p := fun i => alk ks i k) (q := fun i => alk ks i k ∧ i ≠ k) hk (alk_refl h hk) (fun q => q.2 rfl) (fun i _ hne => ⟨fun q => ⟨q, hne⟩, fun q => q.1⟩)
  omega
def aboutR (ks : List Int) (w z : Int) : Prop := (w = 0 ∧ z = (ks.length : Int)) ∨ (w = 1 ∧ z = matT ks ks.length) ∨ (w = 2 ∧ z = cenT ks ks.length) ∨ (w = 3 ∧ z = letR ks (cenT ks ks.length)) ∨ (w = 4 ∧ z = clsR (aT ks ks.length) (bT ks ks.length)) ∨ (w = 5 ∧ z = (nAlk ks : Int)) ∨ (w = 6 ∧ ∃ (h : Nat) (B : Nat → Nat → Prop), hvR ks h B ∧ z = (h : Int)) ∨ ((w < 0 ∨ 6 < w) ∧ z = -1)
def sAboutR (kss : List (List Int)) (x w z : Int) : Prop := (noH kss x ∧ z = -1) ∨ ∃ ks, isH kss x ks ∧ aboutR ks w z
def ofR (ks : List Int) (k : Nat) (w z : Int) : Prop := (w = 0 ∧ z = ks.getD k (-1) / 13824) ∨ (w = 1 ∧ z = ks.getD k (-1) % 13824) ∨ (w = 2 ∧ z = sortK (ks.getD k (-1))) ∨ (w = 3 ∧ ordR (ks.getD k (-1)) z) ∨ (w = 4 ∧ z = (mAlk ks k : Int)) ∨ ((w < 0 ∨ 4 < w) ∧ z = -1)
def sOfR (kss : List (List Int)) (x k w z : Int) : Prop := (¬ isMem kss x k ∧ z = -1) ∨ ∃ ks, isH kss x ks ∧ 0 ≤ k ∧ k < (ks.length : Int) ∧ ofR ks k.toNat w z
def sHalfR (kss : List (List Int)) (x k z : Int) (kss' : List (List Int)) : Prop := (noH kss x ∧ z = -1 ∧ kss' = kss) ∨ ∃ (ks : List Int) (h : Nat) (B : Nat → Nat → Prop), isH kss x ks ∧ hvR ks h B ∧ ((¬ (0 ≤ k ∧ k < (h : Int)) ∧ z = -1 ∧ kss' = kss) ∨ (0 ≤ k ∧ k < (h : Int) ∧ numR kss (selT ks (B k.toNat) ks.length) z kss'))
theorem chiG {ks : List Int} (h : isG ks) (hs : ks.Pairwise (· < ·)) {S : Nat → Prop} (hS : chiB ks S) : isG (selT ks S ks.length) := by
  refine selG h hs (fun j hj e => hS.u h hj e) ?_
  intro i j k hi hj hk pi pj e
  exact (hS i j k hi hj hk e).mpr ⟨fun _ => pj, fun _ => pi⟩
theorem bt_read {x : Int64} {i s : Nat} (hi : i < 64) (hs : s = 63 - i) : (x >>> ((iI (s : Int)).toInt64 &&& 63)) &&& 1 = 0 ↔ bt x i = false := by
  subst hs
  have e1 : ∀ s : Nat, s < 64 → ((iI (s : Int)).toInt64 &&& 63).toBitVec.smod 64 = BitVec.ofNat 64 s := by decide +kernel
  have e2 := e1 (63 - i) (by omega)
  unfold bt
  rw [← Int64.toBitVec_inj, Int64.toBitVec_and, Int64.toBitVec_shiftRight, e2]
  show (x.toBitVec.sshiftRight' (BitVec.ofNat 64 (63 - i))) &&& 1#64 = 0#64 ↔ _
  rw [BitVec.sshiftRight_eq', BitVec.toNat_ofNat, Nat.mod_eq_of_lt (by omega)]
  constructor
  · intro q
    have := congrArg (fun b => b.getLsbD 0) q
    simp only [BitVec.getLsbD_and, BitVec.getLsbD_sshiftRight] at this
    simpa [show 63 - i < 64 by omega] using this
  · intro q
    apply BitVec.eq_of_getLsbD_eq
    intro j hj
    rw [BitVec.getLsbD_and, BitVec.getLsbD_sshiftRight, BitVec.getLsbD_one]
    by_cases e : j = 0
    · subst e
      simp [q]
      intro g
      omega
    · simp [e]
theorem bJ_bt {fj : Nat → Int64} {base k i : Nat} (h : i < 192) : bJ fj base k i ↔ bt (fj (base + 3 * k + i / 64)) (i % 64) = true := by
  unfold bJ bt3
  rcases (show i < 64 ∨ (64 ≤ i ∧ i < 128) ∨ 128 ≤ i by omega) with g | g | g
  · rw [if_pos g, show i / 64 = 0 by omega, show i % 64 = i by omega, Nat.add_zero]
  · rw [if_neg (by omega), if_pos (by omega), show i / 64 = 1 by omega, show i % 64 = i - 64 by omega]
  · rw [if_neg (by omega), if_neg (by omega), show i / 64 = 2 by omega, show i % 64 = i - 128 by omega]
