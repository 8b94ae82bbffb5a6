/-! The reference: PLACES; pure. -/
def tkV (op pl : Int) (i : Nat) : Int := mdg op (3 * i) * pX pl + mdg op (3 * i + 1) * pY pl + mdg op (3 * i + 2) * pZ pl + sdg op i
def tkA (op pl : Int) : Nat → Int
  | 0 => 0
  | i + 1 => 24 * tkA op pl i + tkV op pl i % 24
theorem tkV_rng (op : Int) {pl : Int} (hp : isPl pl) (i : Nat) : -100 ≤ tkV op pl i ∧ tkV op pl i ≤ 100 := by
  obtain ⟨-, b1, b2, b3⟩ := mk3_p hp
  unfold tkV
  have h1 := mul_rng (N := 23) (mdg_in op (3 * i)) (b := pX pl) (by omega)
  have h2 := mul_rng (N := 23) (mdg_in op (3 * i + 1)) (b := pY pl) (by omega)
  have h3 := mul_rng (N := 23) (mdg_in op (3 * i + 2)) (b := pZ pl) (by omega)
  have h4 := sdg_in (k := op) i
  omega
theorem tkA_3 (op pl : Int) : tkA op pl 3 = movK op pl := by
  unfold movK movF mk3
  have e0 : tkV op pl 0 = mdg op 0 * pX pl + mdg op 1 * pY pl + mdg op 2 * pZ pl + pX (op % 13824) := rfl
  have e1 : tkV op pl 1 = mdg op 3 * pX pl + mdg op 4 * pY pl + mdg op 5 * pZ pl + pY (op % 13824) := rfl
  have e2 : tkV op pl 2 = mdg op 6 * pX pl + mdg op 7 * pY pl + mdg op 8 * pZ pl + pZ (op % 13824) := rfl
  have e3 : tkA op pl 3 = 24 * (24 * (24 * 0 + tkV op pl 0 % 24) + tkV op pl 1 % 24) + tkV op pl 2 % 24 := rfl
  rw [e3, ← e0, ← e1, ← e2]
  omega
/-- where a number is to be put into a row, coming from behind -/
theorem orb_ins {f : Nat → Int} {L : List Int} {p : Int} {i : Nat} (h : rowOK 200 f L) (hi : i ≤ L.length) (hl : L.length < 200) (hp : 0 ≤ p ∧ p < 2147483648) (h1 : ∀ j, i ≤ j → j < L.length → p < L.getD j (-1)) (h2 : i = 0 ∨ L.getD (i - 1) (-1) < p) : ∃ L2, rowOK 200 (zu (shf f L.length i) i p) L2 ∧ rowIns L L2 p := by
  have hlt : ∀ j, j < i → L.getD j (-1) < p := fun j hj => by
    rcases h2 with q | q
    · omega
    · have := getD_le h.2.2.2.1 (i := j) (j := i - 1) (by omega) (by omega)
      omega
  have hnot : p ∉ L := fun hm => by
    obtain ⟨t, ht, e⟩ := mem_getD hm
    rcases Nat.lt_or_ge t i with g | g
    · have := hlt t g; omega
    · have := h1 t g ht; omega
  refine h.ins (x := p) (z := (i : Int)) (g := zu (shf f L.length i) i p) ⟨by omega, by omega, by omega, fun j hj => hlt j (by omega), fun j hj hl2 => Int.le_of_lt (h1 j (by omega) hl2)⟩ hp hnot hl (fun j hj => ?_)
  unfold zu shf
  by_cases g1 : (j : Int) < (i : Int)
  · rw [if_pos g1, if_neg (by omega), if_neg (by omega)]
  · by_cases g2 : (j : Int) = (i : Int)
    · rw [if_neg g1, if_pos g2, if_pos (by omega)]
    · rw [if_neg g1, if_neg g2, if_neg (by omega), if_pos (by omega)]
theorem kss_at (kss : List (List Int)) (g : Nat) (h : g < kss.length) : ∃ ks, kss[g]? = some ks := ⟨kss[g], List.getElem?_eq_getElem h⟩
theorem isH_of {kss : List (List Int)} {g : Nat} {ks : List Int} (h : kss[g]? = some ks) : isH kss (g : Int) ks := ⟨by omega, by have := (List.getElem?_eq_some_iff.mp h).1; omega, h⟩
theorem sel_emb {f : Nat → Int} {ks : List Int} {p : Nat → Prop} {i : Nat} (h : emb f 0 (selT ks p i)) (hp : p i) : emb (zu f (selT ks p i).length (ks.getD i (-1))) 0 (selT ks p (i + 1)) := by
  rw [selT_t hp]
  have := emb_snoc (x := ks.getD i (-1)) (v := ks.getD i (-1)) h rfl
  rw [Nat.zero_add] at this
  exact this
theorem sel_len {ks : List Int} {p : Nat → Prop} {i : Nat} : (selT ks p i).length ≤ i := by rw [selT_len]; exact cnt_le _
theorem sel_len_s {ks : List Int} {p : Nat → Prop} {i : Nat} (h : p i) : ((selT ks p i).length : Int) + 1 = ((selT ks p (i + 1)).length : Int) := by rw [selT_t h, len_snoc]; rfl
theorem fset_sel {f : Nat → Int} {L : List Int} (h : emb f 0 L) (hs : L.Pairwise (· < ·)) : fset f L.length L := fset_of h (nodup_lt hs) (fun _ => Iff.rfl)
theorem MEM.g9 {fm fz : Nat → Int} {kss : List (List Int)} (h : MEM fm fz kss) {g : Nat} {ks : List Int} (hg : kss[g]? = some ks) : ks.Pairwise (· < ·) ∧ (0 < ks.length ∧ ks.length ≤ 192) ∧ emb fm (192 * g) ks ∧ fz g = (ks.length : Int) ∧ g < 40 ∧ ∀ x ∈ ks, 0 ≤ x ∧ x < 2147483648 := by
  obtain ⟨h1, h2, h3⟩ := h.2 g ks hg
  have hl := (List.getElem?_eq_some_iff.mp hg).1
  have := h.1
  refine ⟨h3.2.1, ⟨h3.pos, h3.2.2⟩, h1, h2, by omega, fun x hx => ?_⟩
  have := (h3.1.2.2.1 x hx).1
  unfold kOK at this
  omega
theorem lix_b {ks : List Int} {x z : Int} (h : lix ks x z) (hl : ks.length ≤ 192) : -1 ≤ z ∧ z < 192 := by rcases h with ⟨_, _, _, _⟩ | ⟨_, _⟩ <;> omega
theorem lix_n {ks : List Int} {x z : Int} (h : lix ks x z) : z = -1 ↔ x ∉ ks := by
  rcases h with ⟨a, b, _, _⟩ | ⟨a, b⟩
  · exact ⟨fun e => by omega, fun e => absurd a e⟩
  · exact ⟨fun _ => a, fun _ => b⟩
theorem keep_det {ks : List Int} (h : isG ks) {p : Int} : (∀ x ∈ keepK ks p, kOK x) ∧ ∀ x ∈ keepK ks p, detF (mdg x) = 1 ∨ detF (mdg x) = -1 :=
  ⟨fun x hx => (h.2.2.1 x (selT_sub (Nat.le_refl _) hx)).1, fun x hx => h.det (selT_sub (Nat.le_refl _) hx)⟩
def isMem (kss : List (List Int)) (x k : Int) : Prop := ∃ ks, isH kss x ks ∧ 0 ≤ k ∧ k < (ks.length : Int)
theorem isH.uniq {kss : List (List Int)} {x : Int} {a b : List Int} (ha : isH kss x a) (hb : isH kss x b) : a = b := Option.some.inj (ha.2.2.symm.trans hb.2.2)
theorem isH.not {kss : List (List Int)} {x : Int} {a : List Int} (ha : isH kss x a) : ¬ noH kss x := fun h => h ⟨ha.1, ha.2.1⟩
theorem isH_ex {kss : List (List Int)} {x : Int} (h : 0 ≤ x ∧ x < (kss.length : Int)) : ∃ ks, isH kss x ks := by
  obtain ⟨ks, hk⟩ := kss_at kss x.toNat (by omega)
  exact ⟨ks, h.1, h.2, hk⟩
theorem noMem {kss : List (List Int)} {x k : Int} (h : noH kss x) : ¬ isMem kss x k := fun ⟨_, hks, _⟩ => hks.not h
theorem sProd_no {kss : List (List Int)} {x i j : Int} (h : ¬ isMem kss x i ∨ ¬ isMem kss x j) : sProduct kss x i j (-1) := by
  by_cases hn : noH kss x
  · exact Or.inl ⟨hn, rfl⟩
  · obtain ⟨ks, hk⟩ := isH_ex (Classical.not_not.mp hn)
    refine Or.inr ⟨ks, hk, Or.inl ⟨fun hh => ?_, rfl⟩⟩
    rcases h with h | h
    · exact h ⟨ks, hk, hh.1⟩
    · exact h ⟨ks, hk, hh.2⟩
theorem sOf_no {kss : List (List Int)} {x k w : Int} (h : ¬ isMem kss x k) : sOf kss x k w (-1) := by
  by_cases hn : noH kss x
  · exact Or.inl ⟨hn, rfl⟩
  · obtain ⟨ks, hk⟩ := isH_ex (Classical.not_not.mp hn)
    exact Or.inr ⟨ks, hk, Or.inl ⟨fun hh => h ⟨ks, hk, hh⟩, rfl⟩⟩
