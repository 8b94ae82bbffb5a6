/-! The reference: its object, its arrays; rows for longs and booleans. -/
abbrev MoA : Type := Nat → Nat
def MoA.mo (q : MoA) : Nat := q 0
def MoA.xa (q : MoA) : Nat := q 1
def MoA.ya (q : MoA) : Nat := q 2
def MoA.xb (q : MoA) : Nat := q 3
def MoA.yb (q : MoA) : Nat := q 4
def MoA.xc (q : MoA) : Nat := q 5
def MoA.xm (q : MoA) : Nat := q 6
def MoA.xz (q : MoA) : Nat := q 7
def MoA.xl (q : MoA) : Nat := q 8
def MoA.xk (q : MoA) : Nat := q 9
def MoA.xq (q : MoA) : Nat := q 10
def MoA.xh (q : MoA) : Nat := q 11
def MoA.xw (q : MoA) : Nat := q 12
def MoA.xj (q : MoA) : Nat := q 13
def MoA.xt (q : MoA) : Nat := q 14
def MoA.xr (q : MoA) : Nat := q 15
def MoA.xg (q : MoA) : Nat := q 16
def MoA.xo (q : MoA) : Nat := q 17
def MoA.xs (q : MoA) : Nat := q 18
def MoA.xp (q : MoA) : Nat := q 19
def MoA.xd (q : MoA) : Nat := q 20
def MoA.yd (q : MoA) : Nat := q 21
abbrev moC (q : MoA) (cn gn ln : Int) : Nat × va_E := (q.mo, .inr (7, [.ref q.xa, .ref q.ya, .ref q.xb, .ref q.yb, .ref q.xc, .int (iI cn), .ref q.xm, .ref q.xz, .int (iI gn), .ref q.xl, .int (iI ln), .ref q.xk, .ref q.xq, .ref q.xh, .ref q.xw, .ref q.xj, .ref q.xt, .ref q.xr, .ref q.xg, .ref q.xo, .ref q.xs, .ref q.xp, .ref q.xd, .ref q.yd]))
abbrev zM (cI cJ cZ : ClassId) : List (ClassId × FieldType) := [(cI, .int), (cJ, .long), (cZ, .boolean)]
theorem iI_sdiv {a b : Int} (ha : -2147483648 < a ∧ a < 2147483648) (hb : 0 < b ∧ b < 2147483648) : iI a / iI b = iI (a.tdiv b) := by
  apply Int32.toInt_inj.mp
  have h1 := Int.natAbs_tdiv a b
  have h2 : a.natAbs.div b.natAbs ≤ a.natAbs := Nat.div_le_self _ _
  have h3 : (a.tdiv b).natAbs ≤ a.natAbs := by rw [h1]; exact h2
  rw [iI_toInt (z := a.tdiv b) (by omega)]
  have h4 := Int32.toInt_div_of_ne_left (iI a) (iI b) (by
    intro h
    have := congrArg Int32.toInt h
    rw [iI_toInt (by omega), show Int32.minValue.toInt = -2147483648 from rfl] at this
    omega)
  rw [h4, iI_toInt (by omega), iI_toInt (by omega)]
theorem iI_srem {a b : Int} (ha : -2147483648 < a ∧ a < 2147483648) (hb : 0 < b ∧ b < 2147483648) : iI a - iI a / iI b * iI b = iI (a.tmod b) := by
  rw [iI_sdiv ha hb, iI_mul, iI_sub]
  congr 1
  have h1 := Int.mul_tdiv_add_tmod a b
  have h2 : a.tdiv b * b = b * (a.tdiv b) := Int.mul_comm _ _
  omega
theorem tmod24 (v : Int) : (v.tmod 24 + 24) % 24 = v % 24 := by
  have h := Int.mul_tdiv_add_tmod v 24
  omega
theorem tmod24_b (v : Int) : -24 < v.tmod 24 ∧ v.tmod 24 < 24 := by
  have h1 := Int.tmod_lt_of_pos v (b := 24) (by decide)
  have h2 := Int.mul_tdiv_add_tmod v 24
  have h3 := Int.natAbs_tmod v 24
  have h4 : v.natAbs % 24 < 24 := Nat.mod_lt _ (by decide)
  have h5 : (v.tmod 24).natAbs < 24 := by rw [h3]; exact h4
  omega
section LZM
variable {p : Program} {l : Launch} {e : Env} {R : Room} {s : State} {m : MethodId} {args : Array Value} {below : List Frame} {meth : Method} {c : Code} {H H0 : Heap} {locs : List Loc} {cells slots : Nat} {Q : State → Prop}
variable {cc : ByteArray} {pc : Nat} {ls : Array Slot} {rest : List Value} {A : Nat → Prop} {D : va_G} {cl : List vw_C} {tys : List (ClassId × FieldType)} {ws : va_W} {a : Nat}
theorem lz_iremT (hexec : p.tables.exec = Jvm.exec) (hb : c.code = cc) {x y : Int} (hdg : decode cc pc = .ok (.irem, 1)) (hx : -2147483648 < x ∧ x < 2147483648) (hy : 0 < y ∧ y < 2147483648) (k : W p l e R s m args below meth c H locs cells slots Q (F0 m (pc + 1) ls (.int (iI (x.tmod y)) :: rest))) : W p l e R s m args below meth c H locs cells slots Q (F0 m pc ls (.int (iI y) :: .int (iI x) :: rest)) :=
  lv_irem hexec hb hdg (iI_ne0 hy) (by rw [iI_srem hx hy]; exact k)
theorem lz_zald (hexec : p.tables.exec = Jvm.exec) (hb : c.code = cc) (hK : va_K D cl tys s) (hP : va_P D cl ws H) (q0 t0 : Nat) {cA : ClassId} {n : Nat} {f : Nat → Int} (ha : ws[q0]? = some (a, .inl (cA, n, .inl (zf f)))) (ht : tys[t0]? = some (cA, .boolean)) {z : Int} (k : Nat) (hz : z = (k : Int)) (hk : k < n ∧ k < 2147483648) (hdg : decode cc pc = .ok (.baload, 1))
    (kk : W p l e R s m args below meth c H locs cells slots Q (F0 m (pc + 1) ls (.int (iI (f k)) :: rest))) : W p l e R s m args below meth c H locs cells slots Q (F0 m pc ls (.int (iI z) :: .ref a :: rest)) := by
  subst hz
  exact va_zald hexec hb hK hP q0 t0 ha ht (vp_in_iI (by omega) (by omega)) hdg (by rw [iI_clamp (by omega)]; exact kk)
theorem lz_zast1 (hexec : p.tables.exec = Jvm.exec) (hb : c.code = cc) (hK : va_K D cl tys s) (hP : va_P D cl ws H) (hD : va_D A ws) (hS : va_S A H0 H locs) (q0 t0 : Nat) {cA : ClassId} {n : Nat} {f : Nat → Int} (ha : ws[q0]? = some (a, .inl (cA, n, .inl (zf f)))) (ht : tys[t0]? = some (cA, .boolean)) {z : Int} (k : Nat) (hz : z = (k : Int)) (hk : k < n ∧ k < 2147483648) (hdg : decode cc pc = .ok (.bastore, 1))
    (kk : ∀ (H1 : Heap) (locs1 : List Loc), va_P D cl (ws.set q0 (a, .inl (cA, n, .inl (zf (zu f k 1))))) H1 → va_D A (ws.set q0 (a, .inl (cA, n, .inl (zf (zu f k 1))))) → va_S A H0 H1 locs1 → W p l e R s m args below meth c H1 locs1 cells slots Q (F0 m (pc + 1) ls rest)) : W p l e R s m args below meth c H locs cells slots Q (F0 m pc ls (.int (iI 1) :: .int (iI z) :: .ref a :: rest)) := by
  subst hz
  refine va_zast hexec hb hK hP hD hS q0 t0 ha ht (vp_in_iI (by omega) (by omega)) hdg ?_
  rw [iI_clamp (by omega), show vp_nar .boolean (iI 1) = iI 1 by decide, zf_upd]
  exact kk
theorem lz_lald (hexec : p.tables.exec = Jvm.exec) (hb : c.code = cc) (hK : va_K D cl tys s) (hP : va_P D cl ws H) (q0 t0 : Nat) {cA : ClassId} {n : Nat} {f : Nat → Int64} (ha : ws[q0]? = some (a, .inl (cA, n, .inr (.inl f)))) (ht : tys[t0]? = some (cA, .long)) {z : Int} (k : Nat) (hz : z = (k : Int)) (hk : k < n ∧ k < 2147483648) (hdg : decode cc pc = .ok (.laload, 1))
    (kk : W p l e R s m args below meth c H locs cells slots Q (F0 m (pc + 1) ls (.long (f k) :: rest))) : W p l e R s m args below meth c H locs cells slots Q (F0 m pc ls (.int (iI z) :: .ref a :: rest)) := by
  subst hz
  exact va_lald hexec hb hK hP q0 t0 ha ht (vp_in_iI (by omega) (by omega)) hdg (by rw [iI_clamp (by omega)]; exact kk)
theorem lz_last (hexec : p.tables.exec = Jvm.exec) (hb : c.code = cc) (hK : va_K D cl tys s) (hP : va_P D cl ws H) (hD : va_D A ws) (hS : va_S A H0 H locs) (q0 t0 : Nat) {cA : ClassId} {n : Nat} {f : Nat → Int64} (ha : ws[q0]? = some (a, .inl (cA, n, .inr (.inl f)))) (ht : tys[t0]? = some (cA, .long)) {z : Int} {x : Int64} (k : Nat) (hz : z = (k : Int)) (hk : k < n ∧ k < 2147483648) (hdg : decode cc pc = .ok (.lastore, 1))
    (kk : ∀ (H1 : Heap) (locs1 : List Loc), va_P D cl (ws.set q0 (a, .inl (cA, n, .inr (.inl (vp_updL f k x))))) H1 → va_D A (ws.set q0 (a, .inl (cA, n, .inr (.inl (vp_updL f k x))))) → va_S A H0 H1 locs1 → W p l e R s m args below meth c H1 locs1 cells slots Q (F0 m (pc + 1) ls rest)) : W p l e R s m args below meth c H locs cells slots Q (F0 m pc ls (.long x :: .int (iI z) :: .ref a :: rest)) := by
  subst hz
  refine va_last hexec hb hK hP hD hS q0 t0 ha ht (vp_in_iI (by omega) (by omega)) hdg ?_
  rw [iI_clamp (by omega)]
  exact kk
theorem lz_newJ (hexec : p.tables.exec = Jvm.exec) (hb : c.code = cc) (harr : (Cond.arrayClass .long).before args s = true) (hK : va_K D cl tys s) (hP : va_P D cl ws H) (hD : va_D A ws) (hS : va_S A H0 H locs) (hA : ∀ q, H0.size ≤ q → A q) (t0 : Nat) {cJ : ClassId} (ht : tys[t0]? = some (cJ, .long))
    {z : Int} {N : Nat} (hz : z = (N : Int)) (hN : N ≤ 100000) (hcells : cells + 1 ≤ R.cells) (hslots : slots + N ≤ R.slots) (hdg : decode cc pc = .ok (.newarray .long, 2))
    (kk : ∀ (q : Nat) (H1 : Heap), va_P D cl (ws ++ [(q, .inl (cJ, N, .inr (.inl fun _ => 0)))]) H1 → va_D A (ws ++ [(q, .inl (cJ, N, .inr (.inl fun _ => 0)))]) → va_S A H0 H1 locs →
      W p l e R s m args below meth c H1 locs (cells + 1) (slots + N) Q (F0 m (pc + 2) ls (.ref q :: rest))) : W p l e R s m args below meth c H locs cells slots Q (F0 m pc ls (.int (iI z) :: rest)) := by
  subst hz
  refine va_newa (atype := .long) hexec hb (ty := .long) (n := iI (N : Int)) (N' := N) (a0 := (N, .inr (.inl fun _ => 0))) harr rfl hK hP hD hS hA (fun cA => rfl) ?_ ?_ ?_ hcells hslots hdg (fun q cA H1 hK1 hP1 hD1 hS1 => ?_)
  · rw [← iI_0, iI_lt (by omega) (by omega)]; omega
  · rw [iI_clamp (by omega)]; omega
  · simp only [componentBytes]; omega
  · have e1 : s.vm.findClass ("[" ++ FieldType.long.toString) = some cA := (hK1.2 tys.length (cA, .long) (by simp)).2
    have e2 : s.vm.findClass ("[" ++ FieldType.long.toString) = some cJ := (hK.2 t0 (cJ, .long) ht).2
    have e3 : cA = cJ := Option.some.inj (e1.symm.trans e2)
    subst e3
    exact kk q H1 hP1 hD1 hS1
theorem lz_newZ (hexec : p.tables.exec = Jvm.exec) (hb : c.code = cc) (harr : (Cond.arrayClass .boolean).before args s = true) (hK : va_K D cl tys s) (hP : va_P D cl ws H) (hD : va_D A ws) (hS : va_S A H0 H locs) (hA : ∀ q, H0.size ≤ q → A q) (t0 : Nat) {cZ : ClassId} (ht : tys[t0]? = some (cZ, .boolean))
    {z : Int} {N : Nat} (hz : z = (N : Int)) (hN : N ≤ 100000) (hcells : cells + 1 ≤ R.cells) (hslots : slots + N ≤ R.slots) (hdg : decode cc pc = .ok (.newarray .boolean, 2))
    (kk : ∀ (q : Nat) (H1 : Heap), va_P D cl (ws ++ [(q, .inl (cZ, N, .inl (zf fun _ => 0)))]) H1 → va_D A (ws ++ [(q, .inl (cZ, N, .inl (zf fun _ => 0)))]) → va_S A H0 H1 locs →
      W p l e R s m args below meth c H1 locs (cells + 1) (slots + N) Q (F0 m (pc + 2) ls (.ref q :: rest))) : W p l e R s m args below meth c H locs cells slots Q (F0 m pc ls (.int (iI z) :: rest)) := by
  subst hz
  refine va_newa (atype := .boolean) hexec hb (ty := .boolean) (n := iI (N : Int)) (N' := N) (a0 := (N, .inl (zf fun _ => 0))) harr rfl hK hP hD hS hA (fun cA => congrArg (arrV cA N) (funext fun j => congrArg Value.int iI_0)) ?_ ?_ ?_ hcells hslots hdg (fun q cA H1 hK1 hP1 hD1 hS1 => ?_)
  · rw [← iI_0, iI_lt (by omega) (by omega)]; omega
  · rw [iI_clamp (by omega)]; omega
  · simp only [componentBytes]; omega
  · have e1 : s.vm.findClass ("[" ++ FieldType.boolean.toString) = some cA := (hK1.2 tys.length (cA, .boolean) (by simp)).2
    have e2 : s.vm.findClass ("[" ++ FieldType.boolean.toString) = some cZ := (hK.2 t0 (cZ, .boolean) ht).2
    have e3 : cA = cZ := Option.some.inj (e1.symm.trans e2)
    subst e3
    exact kk q H1 hP1 hD1 hS1
theorem lz_lcmp (hexec : p.tables.exec = Jvm.exec) (hb : c.code = cc) {x y : Int64} (hdg : decode cc pc = .ok (.lcmp, 1))
    (klt : x < y → W p l e R s m args below meth c H locs cells slots Q (F0 m (pc + 1) ls (.int (iI (-1)) :: rest)))
    (keq : x = y → W p l e R s m args below meth c H locs cells slots Q (F0 m (pc + 1) ls (.int (iI 0) :: rest)))
    (kgt : y < x → W p l e R s m args below meth c H locs cells slots Q (F0 m (pc + 1) ls (.int (iI 1) :: rest))) : W p l e R s m args below meth c H locs cells slots Q (F0 m pc ls (.long y :: .long x :: rest)) := by
  intro T hT X
  have h3 : x < y ∨ x = y ∨ y < x := by
    rcases Int.lt_trichotomy x.toInt y.toInt with h | h | h
    · exact Or.inl (Int64.lt_iff_toInt_lt.mpr h)
    · exact Or.inr (Or.inl (Int64.toInt_inj.mp h))
    · exact Or.inr (Or.inr (Int64.lt_iff_toInt_lt.mpr h))
  rcases h3 with h | h | h
  · obtain ⟨t, a, b⟩ := klt h T hT X
    refine ⟨t, ?_, b⟩
    have h1 : ¬ y < x := by rw [Int64.lt_iff_toInt_lt] at h ⊢; omega
    have h2 : ¬ x = y := by intro e'; rw [e'] at h; rw [Int64.lt_iff_toInt_lt] at h; omega
    jvm_step X.here [X.here.top, hexec, hb, hdg, h1, h2]
    exact a
  · obtain ⟨t, a, b⟩ := keq h T hT X
    refine ⟨t, ?_, b⟩
    subst h
    jvm_step X.here [X.here.top, hexec, hb, hdg]
    exact a
  · obtain ⟨t, a, b⟩ := kgt h T hT X
    refine ⟨t, ?_, b⟩
    jvm_step X.here [X.here.top, hexec, hb, hdg, h]
    exact a
theorem lz_ishr (hexec : p.tables.exec = Jvm.exec) (hb : c.code = cc) {x y : Int32} {z : Int} (hdg : decode cc pc = .ok (.ishr, 1)) (hz : x >>> (y &&& 31) = iI z) (k : W p l e R s m args below meth c H locs cells slots Q (F0 m (pc + 1) ls (.int (iI z) :: rest))) : W p l e R s m args below meth c H locs cells slots Q (F0 m pc ls (.int y :: .int x :: rest)) :=
  lv_ishr hexec hb hdg (by rw [hz]; exact k)
end LZM
