/-! Contracts of one form: what is there before, what is there behind; the statics that nobody writes go along. -/
def st_sorts : List Int := [2, 3, 4, 6, 1]
def st_rows : List Int := [0, 10000, 100000000, 1000, 100011000, 300000000, 100002000, 300013000, 102000000, 100000020, 102011020, 502000000, 102004000, 300002020, 502015020, 20000000, 20010200, 320000000, 20003000, 320013200, 120200000, 20001002, 120211202, 720200000, 120206000, 320004002, 720217202, 380000000, 380013800, 986000000, 380006060, 986019860]
def stT (xs : List Int) : Nat → Value := fun j => .int (iI (xs.getD j 0))
def stW (U : State) : Prop := (va_Nw (.methodLinkNest nGH 28 yBE_init nGH) U ∧ va_AO "GroupHalls$Group" U) ∧ va_Nw (.methodLinkNest nGR 54 yGH_classOf nGH) U ∧ va_Nw (.fieldLinkNest nBE 26 "GroupHalls" "SORTS" "[I" nGH) U
theorem stW.warm {s U : State} (hW : s.WarmedH U.vm) (h : stW s) : stW U := ⟨⟨h.1.1.warmM hW, h.1.2.moved hW.alike⟩, h.2.1.warmM hW, h.2.2.warmF hW⟩
theorem stW.same {s U : State} (hv : s.vm = U.vm) (h : stW s) : stW U := ⟨⟨h.1.1.same rfl hv, h.1.2.moved (by rw [hv]; exact Vm.Alike.refl _)⟩, h.2.1.same rfl hv, h.2.2.same rfl hv⟩
def stF (A : Nat → Prop) (U : State) (H : Heap) : Prop := ∃ tS tC : Nat, va_Z "GroupHalls" "SORTS" "[I" (.ref tS) A U H ∧ va_T .int tS 5 (stT st_sorts) A U H ∧ va_Z "GroupHalls" "CLASS_ROWS" "[I" (.ref tC) A U H ∧ va_T .int tC 32 (stT st_rows) A U H ∧ stW U
theorem stF.warm {A : Nat → Prop} {u U : State} {H : Heap} (hW : u.WarmedH U.vm) (h : stF A u H) : stF A U H := by
  obtain ⟨tS, tC, h1, h2, h3, h4, h5⟩ := h
  exact ⟨tS, tC, h1.moved hW.alike, h2.moved hW.alike, h3.moved hW.alike, h4.moved hW.alike, h5.warm hW⟩
theorem stF.same {A : Nat → Prop} {u U : State} {H : Heap} (hv : u.vm = U.vm) (h : stF A u H) : stF A U H := by
  have ha : u.vm.Alike U.vm := by rw [hv]; exact Vm.Alike.refl _
  obtain ⟨tS, tC, h1, h2, h3, h4, h5⟩ := h
  exact ⟨tS, tC, h1.moved ha, h2.moved ha, h3.moved ha, h4.moved ha, h5.same hv⟩
theorem stF.kept {A : Nat → Prop} {U : State} {H H1 : Heap} (h : stF A U H) (hq : ∀ a : Nat, a < H.size → ¬ A a → H1[a]? = H[a]?) : stF A U H1 := by
  obtain ⟨tS, tC, h1, h2, h3, h4, h5⟩ := h
  exact ⟨tS, tC, h1.kept hq, h2.kept hq, h3.kept hq, h4.kept hq, h5⟩
theorem stF.narrow {A B : Nat → Prop} {U : State} {H : Heap} (h : stF A U H) (hAB : ∀ q, B q → A q) : stF B U H := by
  obtain ⟨tS, tC, h1, h2, h3, h4, h5⟩ := h
  exact ⟨tS, tC, h1.narrow hAB, h2.narrow hAB, h3.narrow hAB, h4.narrow hAB, h5⟩
def zPre (D : va_G) (cl : List vw_C) (tys : List (ClassId × FieldType)) (wc : va_W) (sz : Nat) (U : State) : Prop := U.heap.size = sz ∧ va_P D cl wc U.heap ∧ va_K D cl tys U ∧ va_D (fun _ => True) wc ∧ stF (va_A wc sz) U U.heap
def zPost {S : Type} (D : va_G) (cl : List vw_C) (tys : List (ClassId × FieldType)) (A : Nat → Prop) (w1 : S → va_W) (u : S) (t : State) : Prop := va_P D cl (w1 u) t.heap ∧ va_D A (w1 u)
theorem zPre_blind {av : List Value} {D : va_G} {cl : List vw_C} {tys : List (ClassId × FieldType)} {wc : va_W} {sz : Nat} : FrameBlind (va_Pc av (zPre D cl tys wc sz)) := fun a U g mk q => by
  obtain ⟨q0, q1, qP, qK, qD, qX⟩ := q
  exact ⟨q0, q1, qP, va_K.moved (u := U) (U := U.calling g mk a) (Vm.Alike.refl U.vm) qK, qD, stF.same (u := U) (U := U.calling g mk a) rfl qX⟩
def zRd (D : va_G) (cl : List vw_C) (tys : List (ClassId × FieldType)) (wc : va_W) (U : State) : Prop := va_P D cl wc U.heap ∧ va_K D cl tys U ∧ stF (fun _ => False) U U.heap
theorem zRd_blind {av : List Value} {D : va_G} {cl : List vw_C} {tys : List (ClassId × FieldType)} {wc : va_W} : FrameBlind (va_Pc av (zRd D cl tys wc)) := fun a U g mk q => by
  obtain ⟨q0, qP, qK, qX⟩ := q
  exact ⟨q0, qP, va_K.moved (u := U) (U := U.calling g mk a) (Vm.Alike.refl U.vm) qK, stF.same (u := U) (U := U.calling g mk a) rfl qX⟩
/-- an int comes back; the cells wc become w1 -/
def zI (l : Launch) (y : MethodName) (ws : List Cond) (rm : Room) (D : va_G) (cl : List vw_C) (tys : List (ClassId × FieldType)) (av : List Value) (wc : va_W) {S : Type} (post : Int → S → Prop) (w1 : S → va_W) : Prop :=
  ∀ sz : Nat, Met l y ws rm (va_Pc av (zPre D cl tys wc sz)) (va_Qi (fun r u => ∃ z : Int, r = iI z ∧ post z u) (zPost D cl tys (va_A wc sz) w1) (va_A wc sz)) rm.cells rm.slots (va_A wc sz)
/-- nothing comes back; the cells wc become w1 -/
def zV (l : Launch) (y : MethodName) (ws : List Cond) (rm : Room) (D : va_G) (cl : List vw_C) (tys : List (ClassId × FieldType)) (av : List Value) (wc : va_W) {S : Type} (post : S → Prop) (w1 : S → va_W) : Prop :=
  ∀ sz : Nat, Met l y ws rm (va_Pc av (zPre D cl tys wc sz)) (va_Qv post (zPost D cl tys (va_A wc sz) w1) (va_A wc sz)) rm.cells rm.slots (va_A wc sz)
/-- a reference (or null) comes back; the cells wc become w1 -/
def zQ (l : Launch) (y : MethodName) (ws : List Cond) (rm : Room) (D : va_G) (cl : List vw_C) (tys : List (ClassId × FieldType)) (av : List Value) (wc : va_W) {S : Type} (post : Option Nat → S → Prop) (w1 : S → va_W) : Prop :=
  ∀ sz : Nat, Met l y ws rm (va_Pc av (zPre D cl tys wc sz)) (va_Qq post (zPost D cl tys (va_A wc sz) w1) (va_A wc sz)) rm.cells rm.slots (va_A wc sz)
/-- an int comes back; nothing changes -/
def zRI (l : Launch) (y : MethodName) (ws : List Cond) (rm : Room) (D : va_G) (cl : List vw_C) (tys : List (ClassId × FieldType)) (av : List Value) (wc : va_W) (post : Int → Prop) : Prop :=
  Met l y ws rm (va_Pc av (zRd D cl tys wc)) (vp_Si (fun r => ∃ z : Int, r = iI z ∧ post z)) 0 0 (fun _ => False)
/-- a reference (or null) comes back; nothing changes -/
def zRQ (l : Launch) (y : MethodName) (ws : List Cond) (rm : Room) (D : va_G) (cl : List vw_C) (tys : List (ClassId × FieldType)) (av : List Value) (wc : va_W) (post : Option Nat → Prop) : Prop :=
  Met l y ws rm (va_Pc av (zRd D cl tys wc)) (va_Sq post) 0 0 (fun _ => False)
section ZOF
variable {l : Launch} {y : MethodName} {ws ws' : List Cond} {rm : Room} {D : va_G} {cl : List vw_C} {tys : List (ClassId × FieldType)} {av : List Value} {wc : va_W} {S : Type} {cc : ByteArray} {maxL : Nat}
theorem zI.of {post : Int → S → Prop} {w1 : S → va_W} {rt : FieldType} (hy : plainName y.cls = true) (hw : ws = Cond.code y cc maxL (some rt) :: ws') (hlen : (lg_sl av).length ≤ maxL) (hnar : ∀ z u, post z u → narrow rt (.int (iI z)) = .int (iI z))
    (body : ∀ (p : Program) (e : Env) (s : State) (m : MethodId) (args : Array Value) (below : List Frame) (meth : Method) (c : Code) (A : Nat → Prop) (ls : Array Slot) (Q : State → Prop), p.tables.exec = Jvm.exec → c.code = cc → c.maxLocals = maxL → s.vm.findClass y.cls = some m.cls → (∀ w ∈ ws, w.before args s = true) → meth.name = y.name → va_K D cl tys s → va_D A wc → (∀ q, s.heap.size ≤ q → A q) → A = va_A wc s.heap.size → stF A s s.heap → lv_has ls maxL (lv_args 0 av) →
      (∀ (H : Heap) (locs : List Loc) (cells slots pc : Nat) (ls : Array Slot) (z : Int) (u : S), post z u → va_P D cl (w1 u) H → va_D A (w1 u) → va_S A s.heap H locs → cells ≤ rm.cells → slots ≤ rm.slots → decode cc pc = .ok (.ireturn, 1) → W p l e (headSpec ws rm).room s m args below meth c H locs cells slots Q (F0 m pc ls [.int (iI z)])) →
      ∀ (H : Heap) (locs : List Loc), va_P D cl wc H → va_S A s.heap H locs → W p l e (headSpec ws rm).room s m args below meth c H locs 0 0 Q (F0 m 0 ls [])) : zI l y ws rm D cl tys av wc post w1 := by
  intro sz
  refine Met.ofW (cc := cc) (maxL := maxL) (ret := some rt) hy hw ?_
  intro p e s m args below meth c s₁ B hml hv
  obtain ⟨hav, hsz, hP, hK, hD0, hX⟩ := hv
  have hx := B.exec
  have hb := B.bytes
  have hr := B.returns
  have hts := atoms_spec (ws := ws) B.pre
  have hown : s.vm.findClass y.cls = some m.cls := findClass_of_methodNamed B.named
  have hlocks := B.notSynchronized
  have hnm : meth.name = y.name := (name_of_methodNamed B.named B.method).1
  subst hsz
  have hl := lv_entry av (n := maxL) hlen
  rw [show entryFrame m args maxL = F0 m 0 ((lg_sl av ++ List.replicate (maxL - (lg_sl av).length) Slot.unset).toArray) [] by rw [hav]; exact lg_entry_eq m av maxL]
  refine body p e s m args below meth c _ _ _ hx hb hml hown hts hnm hK (hD0.self (sz := s.heap.size)) (fun q h => Or.inr h) rfl hX hl ?_ s.heap [] hP va_S.rf
  intro H locs cells slots pc ls z u hpost hP1 hD1 hS hc hs hdg
  refine W.widen hc hs ?_
  exact W.zret (v := iI z) hx hb hr (hnar z u hpost) (fun t ht hW => ⟨⟨iI z, u, rfl, ⟨z, rfl, hpost⟩, by rw [ht]; exact hP1, hD1⟩, hS.F ht⟩) hS.2.2 hdg
theorem zV.of {post : S → Prop} {w1 : S → va_W} (hy : plainName y.cls = true) (hw : ws = Cond.code y cc maxL none :: ws') (hlen : (lg_sl av).length ≤ maxL)
    (body : ∀ (p : Program) (e : Env) (s : State) (m : MethodId) (args : Array Value) (below : List Frame) (meth : Method) (c : Code) (A : Nat → Prop) (ls : Array Slot) (Q : State → Prop), p.tables.exec = Jvm.exec → c.code = cc → c.maxLocals = maxL → s.vm.findClass y.cls = some m.cls → (∀ w ∈ ws, w.before args s = true) → meth.name = y.name → va_K D cl tys s → va_D A wc → (∀ q, s.heap.size ≤ q → A q) → A = va_A wc s.heap.size → stF A s s.heap → lv_has ls maxL (lv_args 0 av) →
      (∀ (H : Heap) (locs : List Loc) (cells slots pc : Nat) (ls : Array Slot) (u : S), post u → va_P D cl (w1 u) H → va_D A (w1 u) → va_S A s.heap H locs → cells ≤ rm.cells → slots ≤ rm.slots → decode cc pc = .ok (.return_, 1) → W p l e (headSpec ws rm).room s m args below meth c H locs cells slots Q (F0 m pc ls [])) →
      ∀ (H : Heap) (locs : List Loc), va_P D cl wc H → va_S A s.heap H locs → W p l e (headSpec ws rm).room s m args below meth c H locs 0 0 Q (F0 m 0 ls [])) : zV l y ws rm D cl tys av wc post w1 := by
  intro sz
  refine Met.ofW (cc := cc) (maxL := maxL) (ret := none) hy hw ?_
  intro p e s m args below meth c s₁ B hml hv
  obtain ⟨hav, hsz, hP, hK, hD0, hX⟩ := hv
  have hx := B.exec
  have hb := B.bytes
  have hr := B.returns
  have hts := atoms_spec (ws := ws) B.pre
  have hown : s.vm.findClass y.cls = some m.cls := findClass_of_methodNamed B.named
  have hlocks := B.notSynchronized
  have hnm : meth.name = y.name := (name_of_methodNamed B.named B.method).1
  subst hsz
  have hl := lv_entry av (n := maxL) hlen
  rw [show entryFrame m args maxL = F0 m 0 ((lg_sl av ++ List.replicate (maxL - (lg_sl av).length) Slot.unset).toArray) [] by rw [hav]; exact lg_entry_eq m av maxL]
  refine body p e s m args below meth c _ _ _ hx hb hml hown hts hnm hK (hD0.self (sz := s.heap.size)) (fun q h => Or.inr h) rfl hX hl ?_ s.heap [] hP va_S.rf
  intro H locs cells slots pc ls u hpost hP1 hD1 hS hc hs hdg
  refine W.widen hc hs ?_
  exact W.vret hx hb hr (fun t ht hW => ⟨⟨u, rfl, hpost, by rw [ht]; exact hP1, hD1⟩, hS.F ht⟩) hS.2.2 hdg
theorem zQ.of {post : Option Nat → S → Prop} {w1 : S → va_W} {rt : FieldType} (hy : plainName y.cls = true) (hw : ws = Cond.code y cc maxL (some rt) :: ws') (hlen : (lg_sl av).length ≤ maxL) (hrt : (∃ n, rt = .object n) ∨ ∃ t, rt = .array t)
    (body : ∀ (p : Program) (e : Env) (s : State) (m : MethodId) (args : Array Value) (below : List Frame) (meth : Method) (c : Code) (A : Nat → Prop) (ls : Array Slot) (Q : State → Prop), p.tables.exec = Jvm.exec → c.code = cc → c.maxLocals = maxL → s.vm.findClass y.cls = some m.cls → (∀ w ∈ ws, w.before args s = true) → meth.name = y.name → va_K D cl tys s → va_D A wc → (∀ q, s.heap.size ≤ q → A q) → A = va_A wc s.heap.size → stF A s s.heap → lv_has ls maxL (lv_args 0 av) →
      (∀ (H : Heap) (locs : List Loc) (cells slots pc : Nat) (ls : Array Slot) (r : Option Nat) (u : S), post r u → va_P D cl (w1 u) H → va_D A (w1 u) → va_S A s.heap H locs → cells ≤ rm.cells → slots ≤ rm.slots → decode cc pc = .ok (.areturn, 1) → W p l e (headSpec ws rm).room s m args below meth c H locs cells slots Q (F0 m pc ls [va_rf r])) →
      ∀ (H : Heap) (locs : List Loc), va_P D cl wc H → va_S A s.heap H locs → W p l e (headSpec ws rm).room s m args below meth c H locs 0 0 Q (F0 m 0 ls [])) : zQ l y ws rm D cl tys av wc post w1 := by
  intro sz
  refine Met.ofW (cc := cc) (maxL := maxL) (ret := some rt) hy hw ?_
  intro p e s m args below meth c s₁ B hml hv
  obtain ⟨hav, hsz, hP, hK, hD0, hX⟩ := hv
  have hx := B.exec
  have hb := B.bytes
  have hr := B.returns
  have hts := atoms_spec (ws := ws) B.pre
  have hown : s.vm.findClass y.cls = some m.cls := findClass_of_methodNamed B.named
  have hlocks := B.notSynchronized
  have hnm : meth.name = y.name := (name_of_methodNamed B.named B.method).1
  subst hsz
  have hl := lv_entry av (n := maxL) hlen
  rw [show entryFrame m args maxL = F0 m 0 ((lg_sl av ++ List.replicate (maxL - (lg_sl av).length) Slot.unset).toArray) [] by rw [hav]; exact lg_entry_eq m av maxL]
  refine body p e s m args below meth c _ _ _ hx hb hml hown hts hnm hK (hD0.self (sz := s.heap.size)) (fun q h => Or.inr h) rfl hX hl ?_ s.heap [] hP va_S.rf
  intro H locs cells slots pc ls r u hpost hP1 hD1 hS hc hs hdg
  refine W.widen hc hs ?_
  exact W.aret (v := va_rf r) hx hb hr hrt (by cases r with | none => exact Or.inl rfl | some a => exact Or.inr ⟨a, rfl⟩) (fun t ht hW => ⟨⟨r, u, rfl, hpost, by rw [ht]; exact hP1, hD1⟩, hS.F ht⟩) hS.2.2 hdg
theorem zRI.of {post : Int → Prop} {rt : FieldType} (hy : plainName y.cls = true) (hw : ws = Cond.code y cc maxL (some rt) :: ws') (hlen : (lg_sl av).length ≤ maxL) (hnar : ∀ z, post z → narrow rt (.int (iI z)) = .int (iI z))
    (body : ∀ (p : Program) (e : Env) (s : State) (m : MethodId) (args : Array Value) (below : List Frame) (meth : Method) (c : Code) (ls : Array Slot) (Q : State → Prop), p.tables.exec = Jvm.exec → c.code = cc → c.maxLocals = maxL → s.vm.findClass y.cls = some m.cls → (∀ w ∈ ws, w.before args s = true) → va_K D cl tys s → va_P D cl wc s.heap → stF (fun _ => False) s s.heap → lv_has ls maxL (lv_args 0 av) →
      (∀ (pc : Nat) (ls : Array Slot) (z : Int), post z → decode cc pc = .ok (.ireturn, 1) → W p l e (headSpec ws rm).room s m args below meth c s.heap [] 0 0 Q (F0 m pc ls [.int (iI z)])) →
      W p l e (headSpec ws rm).room s m args below meth c s.heap [] 0 0 Q (F0 m 0 ls [])) : zRI l y ws rm D cl tys av wc post := by
  refine Met.ofW (cc := cc) (maxL := maxL) (ret := some rt) hy hw ?_
  intro p e s m args below meth c s₁ B hml hv
  obtain ⟨hav, hP, hK, hX⟩ := hv
  have hx := B.exec
  have hb := B.bytes
  have hr := B.returns
  have hts := atoms_spec (ws := ws) B.pre
  have hown : s.vm.findClass y.cls = some m.cls := findClass_of_methodNamed B.named
  have hlocks := B.notSynchronized
  have hl := lv_entry av (n := maxL) hlen
  rw [show entryFrame m args maxL = F0 m 0 ((lg_sl av ++ List.replicate (maxL - (lg_sl av).length) Slot.unset).toArray) [] by rw [hav]; exact lg_entry_eq m av maxL]
  refine body p e s m args below meth c _ _ hx hb hml hown hts hK hP hX hl ?_
  intro pc ls z hpost hdg
  exact W.zret (v := iI z) hx hb hr (hnar z hpost) (fun t ht hW => ⟨iI z, rfl, ⟨z, rfl, hpost⟩, ht⟩) (fun _ h => by cases h) hdg
theorem zRQ.of {post : Option Nat → Prop} {rt : FieldType} (hy : plainName y.cls = true) (hw : ws = Cond.code y cc maxL (some rt) :: ws') (hlen : (lg_sl av).length ≤ maxL) (hrt : (∃ n, rt = .object n) ∨ ∃ t, rt = .array t)
    (body : ∀ (p : Program) (e : Env) (s : State) (m : MethodId) (args : Array Value) (below : List Frame) (meth : Method) (c : Code) (ls : Array Slot) (Q : State → Prop), p.tables.exec = Jvm.exec → c.code = cc → c.maxLocals = maxL → s.vm.findClass y.cls = some m.cls → (∀ w ∈ ws, w.before args s = true) → va_K D cl tys s → va_P D cl wc s.heap → stF (fun _ => False) s s.heap → lv_has ls maxL (lv_args 0 av) →
      (∀ (pc : Nat) (ls : Array Slot) (r : Option Nat), post r → decode cc pc = .ok (.areturn, 1) → W p l e (headSpec ws rm).room s m args below meth c s.heap [] 0 0 Q (F0 m pc ls [va_rf r])) →
      W p l e (headSpec ws rm).room s m args below meth c s.heap [] 0 0 Q (F0 m 0 ls [])) : zRQ l y ws rm D cl tys av wc post := by
  refine Met.ofW (cc := cc) (maxL := maxL) (ret := some rt) hy hw ?_
  intro p e s m args below meth c s₁ B hml hv
  obtain ⟨hav, hP, hK, hX⟩ := hv
  have hx := B.exec
  have hb := B.bytes
  have hr := B.returns
  have hts := atoms_spec (ws := ws) B.pre
  have hown : s.vm.findClass y.cls = some m.cls := findClass_of_methodNamed B.named
  have hlocks := B.notSynchronized
  have hl := lv_entry av (n := maxL) hlen
  rw [show entryFrame m args maxL = F0 m 0 ((lg_sl av ++ List.replicate (maxL - (lg_sl av).length) Slot.unset).toArray) [] by rw [hav]; exact lg_entry_eq m av maxL]
  refine body p e s m args below meth c _ _ hx hb hml hown hts hK hP hX hl ?_
  intro pc ls r hpost hdg
  exact W.aret (v := va_rf r) hx hb hr hrt (by cases r with | none => exact Or.inl rfl | some a => exact Or.inr ⟨a, rfl⟩) (fun t ht hW => ⟨r, rfl, hpost, ht⟩) (fun _ h => by cases h) hdg
end ZOF
section ZCALL
variable {p : Program} {l : Launch} {e : Env} {R : Room} {s : State} {m : MethodId} {args : Array Value} {below : List Frame} {meth : Method} {c : Code} {H H0 : Heap} {locs : List Loc} {cells slots : Nat} {Q : State → Prop}
variable {pc : Nat} {ls : Array Slot} {rest st0 : List Value} {A : Nat → Prop} {D : va_G} {cl : List vw_C} {tys : List (ClassId × FieldType)} {W0 wc wr : va_W} {av : List Value} {a : Array Value} {mc ms : Nat}
/-- the callee's start, out of the caller's world -/
theorem zPre.at (hK : va_K D cl tys s) (hP : va_P D cl W0 H) (hD : va_D A W0) (hS : va_S A s.heap H locs) (hA : ∀ q, s.heap.size ≤ q → A q) (hX : stF A s s.heap) (isC : List Nat) (hn : va_nd isC = true) (hC : isC.map (fun i => W0[i]?) = wc.map some) : ∀ U : State, U.heap = H → s.WarmedH U.vm → va_Pc av (zPre D cl tys wc H.size) av.toArray U := by
  intro U hU hW
  have hF := va_free hD hS hA isC hC
  have hDc := (hD.sub (ws' := wc) isC hn hC).weaken (B := fun _ => True) (fun _ _ _ _ => trivial)
  have hPc : va_P D cl wc H := by
    intro k q hk
    have h1 : (wc.map some)[k]? = some (some q) := by simp [hk]
    rw [← hC] at h1
    obtain ⟨i, hi, h2⟩ : ∃ i, isC[k]? = some i ∧ W0[i]? = some q := by
      rw [List.getElem?_map] at h1
      cases h3 : isC[k]? with
      | none => rw [h3] at h1; cases h1
      | some i => rw [h3] at h1; exact ⟨i, rfl, Option.some.inj h1⟩
    exact hP i q h2
  refine ⟨rfl, by rw [hU], by rw [hU]; exact hPc, va_K.moved hW.alike hK, hDc, ?_⟩
  rw [hU]
  exact ((hX.kept (H1 := H) (fun q h1 h2 => hS.2.1 q h1 h2)).narrow hF).warm hW
theorem zRd.at (hK : va_K D cl tys s) (hPc : va_P D cl wc H) (hX : stF (fun _ => False) s H) : ∀ U : State, U.heap = H → s.WarmedH U.vm → va_Pc av (zRd D cl tys wc) av.toArray U := by
  intro U hU hW
  exact ⟨rfl, by rw [hU]; exact hPc, va_K.moved hW.alike hK, by rw [hU]; exact hX.warm hW⟩
theorem stF.now (hX : stF A s s.heap) (hS : va_S A s.heap H locs) : stF (fun _ => False) s H := (hX.kept (H1 := H) (fun q h1 h2 => hS.2.1 q h1 h2)).narrow (fun _ h => h.elim)
/-- behind a call that gives an int -/
theorem zI.back {S : Type} {post : Int → S → Prop} {w1 : S → va_W} (hr : va_Run p l e R s m args below meth c H locs cells slots mc ms (F0 m pc ls st0) rest (va_Qi (fun r u => ∃ z : Int, r = iI z ∧ post z u) (zPost D cl tys (va_A wc H.size) w1) (va_A wc H.size) a) (va_A wc H.size))
    (hP : va_P D cl W0 H) (hD : va_D A W0) (hS : va_S A H0 H locs) (hA : ∀ q, H0.size ≤ q → A q) (isC isR : List Nat) (hC : isC.map (fun i => W0[i]?) = wc.map some) (hR : isR.map (fun i => W0[i]?) = wr.map some) (hn : va_nd isR = true) (hdis : ∀ i ∈ isR, i ∉ isC)
    (kk : ∀ (z : Int) (u : S) (H1 : Heap) (locs1 : List Loc), post z u → va_P D cl (wr ++ w1 u) H1 → va_D A (wr ++ w1 u) → va_S A H0 H1 locs1 → H.size ≤ H1.size → (∀ q : Nat, q < H.size → ¬ va_A wc H.size q → H1[q]? = H[q]?) → W p l e R s m args below meth c H1 locs1 (cells + mc) (slots + ms) Q (F0 m (pc + 3) ls (.int (iI z) :: rest))) : W p l e R s m args below meth c H locs cells slots Q (F0 m pc ls st0) := by
  have hF := va_free hD hS hA isC hC
  refine va_calli hr hS (fun q _ h => hF q h) hF (fun r u t H1 locs1 ht hvm hw hB hz1 hk1 hS1 => ?_)
  obtain ⟨z, rfl, hp⟩ := hw
  obtain ⟨hP1, hD1⟩ := hB
  rw [ht] at hP1
  obtain ⟨hP2, hD2⟩ := va_join hP hD isC isR hC hR hn hdis hk1 hF hP1 hD1
  exact kk z u H1 locs1 hp hP2 hD2 hS1 hz1 hk1
theorem zV.back {S : Type} {post : S → Prop} {w1 : S → va_W} (hr : va_Run p l e R s m args below meth c H locs cells slots mc ms (F0 m pc ls st0) rest (va_Qv post (zPost D cl tys (va_A wc H.size) w1) (va_A wc H.size) a) (va_A wc H.size))
    (hP : va_P D cl W0 H) (hD : va_D A W0) (hS : va_S A H0 H locs) (hA : ∀ q, H0.size ≤ q → A q) (isC isR : List Nat) (hC : isC.map (fun i => W0[i]?) = wc.map some) (hR : isR.map (fun i => W0[i]?) = wr.map some) (hn : va_nd isR = true) (hdis : ∀ i ∈ isR, i ∉ isC)
    (kk : ∀ (u : S) (H1 : Heap) (locs1 : List Loc), post u → va_P D cl (wr ++ w1 u) H1 → va_D A (wr ++ w1 u) → va_S A H0 H1 locs1 → H.size ≤ H1.size → (∀ q : Nat, q < H.size → ¬ va_A wc H.size q → H1[q]? = H[q]?) → W p l e R s m args below meth c H1 locs1 (cells + mc) (slots + ms) Q (F0 m (pc + 3) ls rest)) : W p l e R s m args below meth c H locs cells slots Q (F0 m pc ls st0) := by
  have hF := va_free hD hS hA isC hC
  refine va_callv hr hS (fun q _ h => hF q h) hF (fun u t H1 locs1 ht hvm hw hB hz1 hk1 hS1 => ?_)
  obtain ⟨hP1, hD1⟩ := hB
  rw [ht] at hP1
  obtain ⟨hP2, hD2⟩ := va_join hP hD isC isR hC hR hn hdis hk1 hF hP1 hD1
  exact kk u H1 locs1 hw hP2 hD2 hS1 hz1 hk1
theorem zQ.back {S : Type} {post : Option Nat → S → Prop} {w1 : S → va_W} (hr : va_Run p l e R s m args below meth c H locs cells slots mc ms (F0 m pc ls st0) rest (va_Qq post (zPost D cl tys (va_A wc H.size) w1) (va_A wc H.size) a) (va_A wc H.size))
    (hP : va_P D cl W0 H) (hD : va_D A W0) (hS : va_S A H0 H locs) (hA : ∀ q, H0.size ≤ q → A q) (isC isR : List Nat) (hC : isC.map (fun i => W0[i]?) = wc.map some) (hR : isR.map (fun i => W0[i]?) = wr.map some) (hn : va_nd isR = true) (hdis : ∀ i ∈ isR, i ∉ isC)
    (kk : ∀ (r : Option Nat) (u : S) (H1 : Heap) (locs1 : List Loc), post r u → va_P D cl (wr ++ w1 u) H1 → va_D A (wr ++ w1 u) → va_S A H0 H1 locs1 → H.size ≤ H1.size → (∀ q : Nat, q < H.size → ¬ va_A wc H.size q → H1[q]? = H[q]?) → W p l e R s m args below meth c H1 locs1 (cells + mc) (slots + ms) Q (F0 m (pc + 3) ls (va_rf r :: rest))) : W p l e R s m args below meth c H locs cells slots Q (F0 m pc ls st0) := by
  have hF := va_free hD hS hA isC hC
  refine va_callq hr hS (fun q _ h => hF q h) hF (fun r u t H1 locs1 ht hvm hw hB hz1 hk1 hS1 => ?_)
  obtain ⟨hP1, hD1⟩ := hB
  rw [ht] at hP1
  obtain ⟨hP2, hD2⟩ := va_join hP hD isC isR hC hR hn hdis hk1 hF hP1 hD1
  exact kk r u H1 locs1 hw hP2 hD2 hS1 hz1 hk1
/-- behind a reading call that gives an int -/
theorem zRI.back {post : Int → Prop} (hr : CallRun p l e R s m args below meth c H locs cells slots 0 0 (F0 m pc ls st0) rest (vp_Si (fun r => ∃ z : Int, r = iI z ∧ post z) a) (fun _ => False))
    (kk : ∀ z : Int, post z → W p l e R s m args below meth c H locs cells slots Q (F0 m (pc + 3) ls (.int (iI z) :: rest))) : W p l e R s m args below meth c H locs cells slots Q (F0 m pc ls st0) :=
  vp_callSi hr (fun r h => by obtain ⟨z, rfl, hp⟩ := h; exact kk z hp)
theorem zRQ.back {post : Option Nat → Prop} (hr : CallRun p l e R s m args below meth c H locs cells slots 0 0 (F0 m pc ls st0) rest (va_Sq post a) (fun _ => False))
    (kk : ∀ r : Option Nat, post r → W p l e R s m args below meth c H locs cells slots Q (F0 m (pc + 3) ls (va_rf r :: rest))) : W p l e R s m args below meth c H locs cells slots Q (F0 m pc ls st0) := va_csq hr kk
end ZCALL
