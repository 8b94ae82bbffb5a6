/-! The sets when all is joined. -/
theorem alk_count {ks : List Int} {so : Nat → Int} (hr : inN ks.length so) (h : ∀ i j, i < ks.length → j < ks.length → (so i = so j ↔ alk ks i j)) : nval ks.length so = nAlk ks := by
  rw [nval_nfst hr]
  refine cnt_congr fun a ha => ⟨fun g b hb q => g b hb ((h b a (by omega) ha).mpr q), fun g b hb q => g b hb ((h b a (by omega) ha).mp q)⟩
theorem alk_many {ks : List Int} {so : Nat → Int} (h : ∀ i j, i < ks.length → j < ks.length → (so i = so j ↔ alk ks i j)) {k : Nat} (hk : k < ks.length) : cnt (fun i => so i = so k) ks.length = mAlk ks k :=
  cnt_congr fun i hi => h i k hi hk
/-- sizes, counted up to i -/
def szI (so sz : Nat → Int) (n i : Nat) : Prop := ∀ v : Nat, v < n → sz v = (cnt (fun j => so j = (v : Int)) i : Int)
theorem szI_0 (so : Nat → Int) (n : Nat) : szI so (fun _ => 0) n 0 := fun v _ => rfl
theorem szI_s {so sz : Nat → Int} {n i : Nat} (hr : inN n so) (hi : i < n) (h : szI so sz n i) : szI so (zu sz (so i).toNat (sz (so i).toNat + 1)) n (i + 1) := by
  intro v hv
  have hb := hr i hi
  unfold zu
  by_cases q : v = (so i).toNat
  · rw [if_pos q, cnt_t (show so i = (v : Int) by omega), ← q, h v hv]
    omega
  · rw [if_neg q, cnt_f (show ¬ so i = (v : Int) by omega), h v hv]
theorem szI_end {so sz : Nat → Int} {n : Nat} (hr : inN n so) (h : szI so sz n n) {k : Nat} (hk : k < n) : sz (so k).toNat = (cnt (fun j => so j = so k) n : Int) := by
  have hb := hr k hk
  rw [h (so k).toNat (by omega)]
  congr 1
  exact cnt_congr fun i _ => by rw [show (((so k).toNat : Nat) : Int) = so k by omega]
