/-! The law: what its walk needs. -/
def xsI (xs : Nat → Int32) (k : Nat) : Int := (xs k).toInt
theorem xsI_rng (xs : Nat → Int32) (k : Nat) : -2147483648 ≤ xsI xs k ∧ xsI xs k < 2147483648 := ⟨by have := (xs k).le_toInt; unfold xsI; omega, by have := (xs k).toInt_lt; unfold xsI; omega⟩
theorem xsI_eq (xs : Nat → Int32) (k : Nat) : iI (xsI xs k) = xs k := Int32.ofInt_toInt _
theorem and15 (x : Int32) : ∃ w : Nat, w < 16 ∧ x &&& iI 15 = iI (w : Int) := by
  refine ⟨x.toBitVec.toNat % 16, Nat.mod_lt _ (by decide), ?_⟩
  apply Int32.toBitVec_inj.mp
  apply BitVec.eq_of_toNat_eq
  have e1 : (x &&& iI 15).toBitVec.toNat = x.toBitVec.toNat % 16 := by
    rw [Int32.toBitVec_and, BitVec.toNat_and]
    show x.toBitVec.toNat &&& 15 = _
    exact Nat.and_two_pow_sub_one_eq_mod x.toBitVec.toNat 4
  rw [e1]
  have h : x.toBitVec.toNat % 16 < 16 := Nat.mod_lt _ (by decide)
  generalize x.toBitVec.toNat % 16 = w at h
  have : ∀ w, w < 16 → w = (iI ((w : Nat) : Int)).toBitVec.toNat := by decide
  exact this w h
section LZL
variable {p : Program} {l : Launch} {e : Env} {R : Room} {s : State} {m : MethodId} {args : Array Value} {below : List Frame} {meth : Method} {c : Code} {H H0 : Heap} {locs : List Loc} {cells slots : Nat} {Q : State → Prop}
variable {cc : ByteArray} {pc : Nat} {ls : Array Slot} {rest st0 : List Value} {A : Nat → Prop} {D : va_G} {cl : List vw_C} {tys : List (ClassId × FieldType)} {X pl cx wr : va_W} {a : Array Value} {mc ms : Nat}
theorem lz_sld (hexec : p.tables.exec = Jvm.exec) (hb : c.code = cc) {b L : Nat} {xs : Nat → Int32} (hX : va_X b L xs s H0) (hbl : b < H0.size) (hbA : ¬ A b) (hS : va_S A H0 H locs) {z : Int} (k : Nat) (hz : z = (k : Int)) (hk : k < L ∧ k < 2147483648) (hdg : decode cc pc = .ok (.iaload, 1))
    (kk : W p l e R s m args below meth c H locs cells slots Q (F0 m (pc + 1) ls (.int (iI (xsI xs k)) :: rest))) : W p l e R s m args below meth c H locs cells slots Q (F0 m pc ls (.int (iI z) :: .ref b :: rest)) := by
  subst hz
  refine va_sld hexec hb hX hbl hbA hS (vp_in_iI (by omega) (by omega)) hdg ?_
  rw [iI_clamp (by omega)]
  rw [xsI_eq] at kk
  exact kk
theorem lz_slen (hexec : p.tables.exec = Jvm.exec) (hb : c.code = cc) {b L : Nat} {xs : Nat → Int32} (hX : va_X b L xs s H0) (hbl : b < H0.size) (hbA : ¬ A b) (hS : va_S A H0 H locs) (hdg : decode cc pc = .ok (.arraylength, 1))
    (kk : W p l e R s m args below meth c H locs cells slots Q (F0 m (pc + 1) ls (.int (iI (L : Int)) :: rest))) : W p l e R s m args below meth c H locs cells slots Q (F0 m pc ls (.ref b :: rest)) := by
  refine va_slen hexec hb hX hbl hbA hS hdg ?_
  rw [← iI_nI] at kk
  exact kk
def gh13 (cI cG : ClassId) (gh ha ch b lf rt cl fr fa ca ge ga gaa : Nat) (u : GS) : va_W :=
  [(gh, .inr (6, [.ref ha, .int (iI (u.1.length : Int)), .ref ch, .int (iI (u.2.2.1.length : Int)), .ref b, .ref cl, .ref ga])), (ha, .inl (cG, 40, .inr (.inr (.inr (.inr u.2.1))))), (ch, .inl (cI, 10, .inl (zf u.2.2.2.1))), (b, .inr (1, [.ref lf, .ref rt])), (lf, .inl (cI, 9, .inl (zf u.2.2.2.2.2.2.2.2.2.2.2.2.1))), (rt, .inl (cI, 9, .inl (zf u.2.2.2.2.2.2.2.2.2.2.2.2.2))), (cl, .inr (2, [.ref b, .ref fr, .ref ca, .int (iI u.2.2.2.2.2.2.2.2.2.1), .ref ge, .int (iI u.2.2.2.2.2.2.2.2.2.2.2.1)])), (fr, .inr (5, [.ref fa, .int (iI u.2.2.2.2.2.2.1)])), (fa, .inl (cI, 192, .inl (zf u.2.2.2.2.2.2.2.1))), (ca, .inl (cI, 192, .inl (zf u.2.2.2.2.2.2.2.2.1))), (ge, .inl (cI, 10, .inl (zf u.2.2.2.2.2.2.2.2.2.2.1))), (ga, .inr (5, [.ref gaa, .int (iI u.2.2.2.2.1)])), (gaa, .inl (cI, 192, .inl (zf u.2.2.2.2.2.1)))]
theorem zI.backG {cI cG : ClassId} {gh ha ch b lf rt cl9 fr fa ca ge ga gaa : Nat} {post : Int → GS → Prop} (hr : va_Run p l e R s m args below meth c H locs cells slots mc ms (F0 m pc ls st0) rest (va_Qi (fun r u => ∃ z : Int, r = iI z ∧ post z u) (zPost D cl tys (va_A (cx ++ pl) H.size) (fun u => ghW cI cG gh ha ch b lf rt cl9 fr fa ca ge ga gaa u)) (va_A (cx ++ pl) H.size) a) (va_A (cx ++ pl) H.size))
    (hP : va_P D cl (X ++ pl) H) (hD : va_D A (X ++ pl)) (hS : va_S A H0 H locs) (hA : ∀ q, H0.size ≤ q → A q) (isC isR : List Nat) (hC : isC.map (fun i => X[i]?) = cx.map some) (hR : isR.map (fun i => X[i]?) = wr.map some) (hn : va_nd isR = true) (hdis : ∀ i ∈ isR, i ∉ isC)
    (kk : ∀ (z : Int) (u : GS) (H1 : Heap) (locs1 : List Loc), post z u → va_P D cl ((wr ++ gh13 cI cG gh ha ch b lf rt cl9 fr fa ca ge ga gaa u) ++ poolW cI u.1) H1 → va_D A ((wr ++ gh13 cI cG gh ha ch b lf rt cl9 fr fa ca ge ga gaa u) ++ poolW cI u.1) → va_S A H0 H1 locs1 → H.size ≤ H1.size → (∀ q : Nat, q < H.size → ¬ va_A (cx ++ pl) H.size q → H1[q]? = H[q]?) → W p l e R s m args below meth c H1 locs1 (cells + mc) (slots + ms) Q (F0 m (pc + 3) ls (.int (iI z) :: rest))) : W p l e R s m args below meth c H locs cells slots Q (F0 m pc ls st0) :=
  zI.backP (rx := fun u => gh13 cI cG gh ha ch b lf rt cl9 fr fa ca ge ga gaa u) (pl1 := fun u => poolW cI u.1) hr hP hD hS hA isC isR hC hR hn hdis kk
end LZL
theorem MEM.ok {fm fz : Nat → Int} {kss : List (List Int)} (h : MEM fm fz kss) : kssOK kss := fun g ks hg => (h.2 g ks hg).2.2
theorem KNW.ext {kss kss' : List (List Int)} {fw fk fq fh : Nat → Int} {fj : Nat → Int64} (h : KNW kss fw fk fq fh fj) (he : kss' = kss ∨ ∃ ks z, numR kss ks z kss') : KNW kss' fw fk fq fh fj := by
  rcases he with rfl | ⟨ks, z, q⟩
  · exact h
  · exact h.num q
theorem sGroup.ext {kss chs z k'} (h : sGroup kss chs z k') : k' = kss ∨ ∃ ks z, numR kss ks z k' := by
  rcases h with ⟨ks, _, q⟩ | ⟨_, _, q⟩
  · exact Or.inr ⟨ks, z, q⟩
  · exact Or.inl q
theorem sBoth.ext {kss x y z k'} (h : sBoth kss x y z k') : k' = kss ∨ ∃ ks z, numR kss ks z k' := by
  rcases h with ⟨_, _, q⟩ | ⟨_, _, _, _, q⟩
  · exact Or.inl q
  · exact Or.inr ⟨_, z, q⟩
theorem sKeepers.ext {kss x y z k'} (h : sKeepers kss x y z k') : k' = kss ∨ ∃ ks z, numR kss ks z k' := by
  rcases h with ⟨_, _, q⟩ | ⟨_, _, _, q⟩
  · exact Or.inl q
  · exact Or.inr ⟨_, z, q⟩
