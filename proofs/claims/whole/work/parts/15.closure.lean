/-! Closure: written by wip/whole/gencl.py -/
def rmCL_found : Room := { frames := 0, cells := 0, slots := 0, locals := 0 }
set_option maxHeartbeats 4000000 in
set_option maxRecDepth 100000 in
theorem mCL_found (l : Launch) (D : va_G) (cI cG : ClassId) (cl b lf rt fr fa ca ge : Nat) (cc gc : Int)  : zRQ l yCL_found wCL_found rmCL_found D vwCl (zT cI cG) [.ref cl] [(cl, .inr (2, [.ref b, .ref fr, .ref ca, .int (iI cc), .ref ge, .int (iI gc)]))] (fun z => z = some fr) := by
  refine zRQ.of (cc := cCL_found) (maxL := 1) (rt := (.object "GroupHalls$Row")) (by decide) rfl (Nat.le_of_ble_eq_true rfl) (Or.inl ⟨_, rfl⟩) ?_
  intro p e s m args below meth c ls Q hx hb hml hown hts hK hP hX hl hret
  have hS0 : va_S (fun _ => False) s.heap s.heap [] := va_S.rf
  have hl : lv_has ls 1 [(0, .ref cl)] := hl
  refine lv_aload_n hx hb dCL_found_0 rfl (lv_at hl 0 rfl) ?_
  refine va_get (D := D) (ci := 2) (v := .ref fr) (C := nCL) (T := fCL) (N := 6) hx hb hts iwCL hown hK hP 0 rfl rfl 1 (by decide) (hts _ (List.mem_cons_of_mem _ lkCL_14)) (fun _ h9 => h9) rfl dCL_found_1 ?_
  exact hret 4 ls (some fr) rfl dCL_found_4

def rmCL_generatorCount : Room := { frames := 0, cells := 0, slots := 0, locals := 0 }
set_option maxHeartbeats 4000000 in
set_option maxRecDepth 100000 in
theorem mCL_generatorCount (l : Launch) (D : va_G) (cI cG : ClassId) (cl b lf rt fr fa ca ge : Nat) (cc gc : Int)  : zRI l yCL_generatorCount wCL_generatorCount rmCL_generatorCount D vwCl (zT cI cG) [.ref cl] [(cl, .inr (2, [.ref b, .ref fr, .ref ca, .int (iI cc), .ref ge, .int (iI gc)]))] (fun z => z = gc) := by
  refine zRI.of (cc := cCL_generatorCount) (maxL := 1) (rt := .int) (by decide) rfl (Nat.le_of_ble_eq_true rfl) (fun _ _ => rfl) ?_
  intro p e s m args below meth c ls Q hx hb hml hown hts hK hP hX hl hret
  have hS0 : va_S (fun _ => False) s.heap s.heap [] := va_S.rf
  have hl : lv_has ls 1 [(0, .ref cl)] := hl
  refine lv_aload_n hx hb dCL_generatorCount_0 rfl (lv_at hl 0 rfl) ?_
  refine va_get (D := D) (ci := 2) (v := .int (iI gc)) (C := nCL) (T := fCL) (N := 6) hx hb hts iwCL hown hK hP 0 rfl rfl 5 (by decide) (hts _ (List.mem_cons_of_mem _ lkCL_31)) (fun _ h9 => h9) rfl dCL_generatorCount_1 ?_
  exact hret 4 ls gc rfl dCL_generatorCount_4

def rmCL_generator : Room := { frames := 0, cells := 0, slots := 0, locals := 0 }
set_option maxHeartbeats 4000000 in
set_option maxRecDepth 100000 in
theorem mCL_generator (l : Launch) (D : va_G) (cI cG : ClassId) (cl b lf rt fr fa ca ge : Nat) (cc : Int) (fg : Nat → Int) (gs : List Int) (k : Int) (hg : ∀ j, j < gs.length → fg j = gs.getD j (-1)) (hgl : gs.length ≤ 10) (hk : -2147483648 ≤ k ∧ k < 2147483648) : zRI l yCL_generator wCL_generator rmCL_generator D vwCl (zT cI cG) [.ref cl, .int (iI k)] [(cl, .inr (2, [.ref b, .ref fr, .ref ca, .int (iI cc), .ref ge, .int (iI (gs.length : Int))])), (ge, .inl (cI, 10, .inl (zf fg)))] (fun z => z = lat gs k) := by
  refine zRI.of (cc := cCL_generator) (maxL := 2) (rt := .int) (by decide) rfl (Nat.le_of_ble_eq_true rfl) (fun _ _ => rfl) ?_
  intro p e s m args below meth c ls Q hx hb hml hown hts hK hP hX hl hret
  have hS0 : va_S (fun _ => False) s.heap s.heap [] := va_S.rf
  have hl : lv_has ls 2 [(0, .ref cl), (1, .int (iI k))] := hl
  refine lv_iload_n hx hb dCL_generator_0 rfl (lv_at hl 1 rfl) ?_
  refine lz_if_lt (tgt := 30) hx hb dCL_generator_1 (by decide) (by omega) (fun c_1 => ?_) (fun c_1 => ?_)
  · refine lv_iconst (v := iI (-1)) hx hb dCL_generator_30 rfl ?_
    exact hret 31 ls (-1) (lat_out (by omega)).symm dCL_generator_31
  · refine lv_iload_n hx hb dCL_generator_4 rfl (lv_at hl 1 rfl) ?_
    refine lv_aload_n hx hb dCL_generator_5 rfl (lv_at hl 0 rfl) ?_
    refine va_get (D := D) (ci := 2) (v := .int (iI (gs.length : Int))) (C := nCL) (T := fCL) (N := 6) hx hb hts iwCL hown hK hP 0 rfl rfl 5 (by decide) (hts _ (List.mem_cons_of_mem _ lkCL_31)) (fun _ h9 => h9) rfl dCL_generator_6 ?_
    refine lz_icmp_ge (tgt := 30) hx hb dCL_generator_9 (by decide) (by omega) (by omega) (fun c_9 => ?_) (fun c_9 => ?_)
    · refine lv_iconst (v := iI (-1)) hx hb dCL_generator_30 rfl ?_
      exact hret 31 ls (-1) (lat_out (by omega)).symm dCL_generator_31
    · refine lv_iload_n hx hb dCL_generator_12 rfl (lv_at hl 1 rfl) ?_
      refine lv_aload_n hx hb dCL_generator_13 rfl (lv_at hl 0 rfl) ?_
      refine va_get (D := D) (ci := 2) (v := .ref ge) (C := nCL) (T := fCL) (N := 6) hx hb hts iwCL hown hK hP 0 rfl rfl 4 (by decide) (hts _ (List.mem_cons_of_mem _ lkCL_28)) (fun _ h9 => h9) rfl dCL_generator_14 ?_
      refine lz_alen hx hb hK hP 1 0 rfl rfl dCL_generator_17 ?_
      refine lz_icmp_ge (tgt := 30) hx hb dCL_generator_18 (by decide) (by omega) (by omega) (fun c_18 => ?_) (fun c_18 => ?_)
      · exact absurd c_18 (by omega)
      · refine lv_aload_n hx hb dCL_generator_21 rfl (lv_at hl 0 rfl) ?_
        refine va_get (D := D) (ci := 2) (v := .ref ge) (C := nCL) (T := fCL) (N := 6) hx hb hts iwCL hown hK hP 0 rfl rfl 4 (by decide) (hts _ (List.mem_cons_of_mem _ lkCL_28)) (fun _ h9 => h9) rfl dCL_generator_22 ?_
        refine lv_iload_n hx hb dCL_generator_25 rfl (lv_at hl 1 rfl) ?_
        refine lz_iald hx hb hK hP 1 0 rfl rfl (z := k) (by omega) dCL_generator_26 ?_
        refine lv_goto (tgt := 31) hx hb dCL_generator_27 (by decide) ?_
        exact hret 31 ls (fg (k).toNat) (by rw [(lat_in c_1 c_9).1]; exact hg _ (by omega)) dCL_generator_31

def rmCL_addCoset : Room := { frames := 2, cells := 0, slots := 0, locals := 82 }
set_option maxHeartbeats 4000000 in
set_option maxRecDepth 100000 in
theorem mCL_addCoset (l : Launch) (D : va_G) (cI cG : ClassId) (cl b lf rt fr fa ca ge : Nat) (fs : Int) (ff fc : Nat → Int) (cc : Int) (fg : Nat → Int) (gc : Int) (gl gr : Nat → Int) (ks cm gs : List Int) (key : Int) (n0 : Nat) (hst : CSt fs ff fc cc fg gc ks cm gs) (hn0 : n0 ≤ cm.length) (hkv : ∀ j, j < n0 → kOK (cm.getD j (-1))) (hkey : kOK key) (hfr : ∀ j, j < n0 → timesK (cm.getD j (-1)) key ≠ -1 → timesK (cm.getD j (-1)) key ∉ ks) (hij : ∀ i j, i < n0 → j < n0 → timesK (cm.getD i (-1)) key ≠ -1 → timesK (cm.getD i (-1)) key = timesK (cm.getD j (-1)) key → i = j) : zI l yCL_addCoset wCL_addCoset rmCL_addCoset D vwCl (zT cI cG) [.ref cl, .int (iI key), .int (iI (n0 : Int))] [(cl, .inr (2, [.ref b, .ref fr, .ref ca, .int (iI cc), .ref ge, .int (iI gc)])), (b, .inr (1, [.ref lf, .ref rt])), (lf, .inl (cI, 9, .inl (zf gl))), (rt, .inl (cI, 9, .inl (zf gr))), (fr, .inr (5, [.ref fa, .int (iI fs)])), (fa, .inl (cI, 192, .inl (zf ff))), (ca, .inl (cI, 192, .inl (zf fc))), (ge, .inl (cI, 10, .inl (zf fg)))] (S := CS) (fun z u => (z = 1 ∧ ∃ ks2, CSt u.1 u.2.1 u.2.2.1 u.2.2.2.1 u.2.2.2.2.1 u.2.2.2.2.2.1 ks2 (cmI cm key n0) gs ∧ (∀ j, j < n0 → timesK (cm.getD j (-1)) key ≠ -1) ∧ ∀ y, y ∈ ks2 ↔ y ∈ ks ∨ newAt cm key n0 y) ∨ (z = 0 ∧ (∃ ks2, rowOK 192 u.2.1 ks2 ∧ u.1 = (ks2.length : Int)) ∧ ((∃ j, j < n0 ∧ timesK (cm.getD j (-1)) key = -1) ∨ 192 < cm.length + n0))) (fun u => [(cl, .inr (2, [.ref b, .ref fr, .ref ca, .int (iI u.2.2.2.1), .ref ge, .int (iI u.2.2.2.2.2.1)])), (b, .inr (1, [.ref lf, .ref rt])), (lf, .inl (cI, 9, .inl (zf u.2.2.2.2.2.2.1))), (rt, .inl (cI, 9, .inl (zf u.2.2.2.2.2.2.2))), (fr, .inr (5, [.ref fa, .int (iI u.1)])), (fa, .inl (cI, 192, .inl (zf u.2.1))), (ca, .inl (cI, 192, .inl (zf u.2.2.1))), (ge, .inl (cI, 10, .inl (zf u.2.2.2.2.1)))]) := by
  refine zI.of (cc := cCL_addCoset) (maxL := 5) (rt := .boolean) (by decide) rfl (Nat.le_of_ble_eq_true rfl) (fun z u h => by rcases h with ⟨rfl, _⟩ | ⟨rfl, _⟩ <;> decide) ?_
  intro p e s m args below meth c A ls Q hx hb hml hown hts hnm hK hD hA hAe hX hl hret H locs hP hS
  have hl : lv_has ls 5 [(0, .ref cl), (1, .int (iI key)), (2, .int (iI (n0 : Int)))] := hl
  have hcm := hst.2.2.2.2.1
  have hkey2 := hkey
  unfold kOK at hkey2
  obtain rfl : fs = (ks.length : Int) := hst.2.1
  obtain rfl : cc = (cm.length : Int) := hst.2.2.2.1
  refine lv_iconst (v := iI (0)) hx hb dCL_addCoset_0 rfl ?_
  refine lv_istore_n (lv' := [(3, .int (iI 0)), (0, .ref cl), (1, .int (iI key)), (2, .int (iI (n0 : Int)))]) hx hb dCL_addCoset_1 rfl hl (by decide) rfl (fun ls hl => ?_)
  have lp2 : ∀ (n9 : Nat) (i : Nat) (fs1 : Int) (ff1 fc1 gl1 gr1 : Nat → Int) (ks1 : List Int), (i ≤ n0) → (CSt fs1 ff1 fc1 ((cm.length + i : Nat) : Int) fg gc ks1 (cmI cm key i) gs) → (∀ j, j < i → timesK (cm.getD j (-1)) key ≠ -1) → (∀ y, y ∈ ks1 ↔ y ∈ ks ∨ newAt cm key i y) → (n0 - i) < n9 → ∀ (H : Heap) (locs : List Loc), va_P D vwCl [(cl, .inr (2, [.ref b, .ref fr, .ref ca, .int (iI ((cm.length + i : Nat) : Int)), .ref ge, .int (iI gc)])), (b, .inr (1, [.ref lf, .ref rt])), (lf, .inl (cI, 9, .inl (zf gl1))), (rt, .inl (cI, 9, .inl (zf gr1))), (fr, .inr (5, [.ref fa, .int (iI fs1)])), (fa, .inl (cI, 192, .inl (zf ff1))), (ca, .inl (cI, 192, .inl (zf fc1))), (ge, .inl (cI, 10, .inl (zf fg)))] H → va_D A [(cl, .inr (2, [.ref b, .ref fr, .ref ca, .int (iI ((cm.length + i : Nat) : Int)), .ref ge, .int (iI gc)])), (b, .inr (1, [.ref lf, .ref rt])), (lf, .inl (cI, 9, .inl (zf gl1))), (rt, .inl (cI, 9, .inl (zf gr1))), (fr, .inr (5, [.ref fa, .int (iI fs1)])), (fa, .inl (cI, 192, .inl (zf ff1))), (ca, .inl (cI, 192, .inl (zf fc1))), (ge, .inl (cI, 10, .inl (zf fg)))] → va_S A s.heap H locs → ∀ (ls : Array Slot), lv_has ls 5 [(0, .ref cl), (1, .int (iI key)), (2, .int (iI (n0 : Int))), (3, .int (iI (i : Int)))] → W p l e (headSpec wCL_addCoset rmCL_addCoset).room s m args below meth c H locs 0 0 Q (F0 m 2 ls []) := by
    intro n9
    induction n9 with
    | zero => intro i fs1 ff1 fc1 gl1 gr1 ks1 hi hI hne hmm hm; exact absurd hm (Nat.not_lt_zero _)
    | succ n9 ih2 =>
      intro i fs1 ff1 fc1 gl1 gr1 ks1 hi hI hne hmm hm2 H locs hP hD hS ls hl
      refine lv_iload_n hx hb dCL_addCoset_2 rfl (lv_at hl 3 rfl) ?_
      refine lv_iload_n hx hb dCL_addCoset_3 rfl (lv_at hl 2 rfl) ?_
      refine lz_icmp_ge (tgt := 91) hx hb dCL_addCoset_4 (by decide) (by omega) (by omega) (fun c_4 => ?_) (fun c_4 => ?_)
      · have hin : i = n0 := by omega
        refine lv_iconst (v := iI (1)) hx hb dCL_addCoset_91 rfl ?_
        exact hret H locs 0 0 92 ls 1 (fs1, ff1, fc1, ((cm.length + i : Nat) : Int), fg, gc, gl1, gr1) (Or.inl ⟨rfl, ks1, by subst hin; exact hI, by subst hin; exact hne, by subst hin; exact hmm⟩) (hP.sub [0, 1, 2, 3, 4, 5, 6, 7] rfl) (hD.sub [0, 1, 2, 3, 4, 5, 6, 7] (by decide) rfl) hS (Nat.zero_le _) (Nat.zero_le _) dCL_addCoset_92
      · refine lv_iload_n hx hb dCL_addCoset_7 rfl (lv_at hl 3 rfl) ?_
        refine lv_aload_n hx hb dCL_addCoset_8 rfl (lv_at hl 0 rfl) ?_
        refine va_get (D := D) (ci := 2) (v := .ref ca) (C := nCL) (T := fCL) (N := 6) hx hb hts iwCL hown hK hP 0 rfl rfl 2 (by decide) (hts _ (List.mem_cons_of_mem _ lkCL_20)) (fun _ h9 => h9) rfl dCL_addCoset_9 ?_
        refine lz_alen hx hb hK hP 6 0 rfl rfl dCL_addCoset_12 ?_
        refine lz_icmp_ge (tgt := 91) hx hb dCL_addCoset_13 (by decide) (by omega) (by omega) (fun c_13 => ?_) (fun c_13 => ?_)
        · exact absurd c_13 (by omega)
        · refine lv_aload_n hx hb dCL_addCoset_16 rfl (lv_at hl 0 rfl) ?_
          refine va_get (D := D) (ci := 2) (v := .ref b) (C := nCL) (T := fCL) (N := 6) hx hb hts iwCL hown hK hP 0 rfl rfl 0 (by decide) (hts _ (List.mem_cons_of_mem _ lkCL_34)) (fun _ h9 => h9) rfl dCL_addCoset_17 ?_
          refine lv_aload_n hx hb dCL_addCoset_20 rfl (lv_at hl 0 rfl) ?_
          refine va_get (D := D) (ci := 2) (v := .ref ca) (C := nCL) (T := fCL) (N := 6) hx hb hts iwCL hown hK hP 0 rfl rfl 2 (by decide) (hts _ (List.mem_cons_of_mem _ lkCL_20)) (fun _ h9 => h9) rfl dCL_addCoset_21 ?_
          refine lv_iload_n hx hb dCL_addCoset_24 rfl (lv_at hl 3 rfl) ?_
          refine lz_ialk hx hb hK hP 6 0 rfl rfl (z := (i : Int)) i rfl (by omega) dCL_addCoset_25 ?_
          refine lz_as (x := fc1 i) (y := cm.getD i (-1)) (by rw [hI.2.2.1 i (by rw [cmI_len (by omega)]; omega), cmI_at (by omega)]) ?_
          refine lv_iload_n hx hb dCL_addCoset_26 rfl (lv_at hl 1 rfl) ?_
          refine zI.back (va_runV (As := [.int (iI (cm.getD i (-1))), .int (iI key)]) (rest := []) ⟨hx, hb, hml, hown, hts⟩ ((mBE_times l D cI cG b lf rt gl1 gr1 (cm.getD i (-1)) key (hkv i (by omega)) hkey) H.size) (cwV 2 hts (gT1 lkCL_63 (gT1 imBE_times (gT1 seBE_times (gT1 iniBE (gTW kcBE_times))))) rfl rfl rfl (by decide +kernel) ⟨Nat.le_of_ble_eq_true rfl, Nat.le_of_ble_eq_true rfl⟩) ⟨zPre_blind, va_recv hK hP (ci := 1) (q0 := 1) rfl rfl, zPre.at (wc := [(b, .inr (1, [.ref lf, .ref rt])), (lf, .inl (cI, 9, .inl (zf gl1))), (rt, .inl (cI, 9, .inl (zf gr1)))]) hK hP hD hS hA hX [1, 2, 3] (by decide) rfl⟩ rfl rfl hl.1 rfl (lv_room (Nat.le_of_ble_eq_true rfl)) dCL_addCoset_27 ⟨Nat.le_of_ble_eq_true rfl, Nat.le_of_ble_eq_true rfl⟩) (wr := [(cl, .inr (2, [.ref b, .ref fr, .ref ca, .int (iI ((cm.length + i : Nat) : Int)), .ref ge, .int (iI gc)])), (fr, .inr (5, [.ref fa, .int (iI fs1)])), (fa, .inl (cI, 192, .inl (zf ff1))), (ca, .inl (cI, 192, .inl (zf fc1))), (ge, .inl (cI, 10, .inl (zf fg)))]) hP hD hS hA [1, 2, 3] [0, 4, 5, 6, 7] rfl rfl (by decide) (by decide) (fun z_27 u_27 H locs q_27 hP hD hS hz_27 hk_27 => ?_)
          obtain rfl : z_27 = timesK (cm.getD i (-1)) key := q_27
          have hP : va_P D vwCl [(cl, .inr (2, [.ref b, .ref fr, .ref ca, .int (iI ((cm.length + i : Nat) : Int)), .ref ge, .int (iI gc)])), (fr, .inr (5, [.ref fa, .int (iI fs1)])), (fa, .inl (cI, 192, .inl (zf ff1))), (ca, .inl (cI, 192, .inl (zf fc1))), (ge, .inl (cI, 10, .inl (zf fg))), (b, .inr (1, [.ref lf, .ref rt])), (lf, .inl (cI, 9, .inl (zf (rd (cm.getD i (-1)) gl1)))), (rt, .inl (cI, 9, .inl (zf (rd key gr1))))] H := hP
          have hD : va_D A [(cl, .inr (2, [.ref b, .ref fr, .ref ca, .int (iI ((cm.length + i : Nat) : Int)), .ref ge, .int (iI gc)])), (fr, .inr (5, [.ref fa, .int (iI fs1)])), (fa, .inl (cI, 192, .inl (zf ff1))), (ca, .inl (cI, 192, .inl (zf fc1))), (ge, .inl (cI, 10, .inl (zf fg))), (b, .inr (1, [.ref lf, .ref rt])), (lf, .inl (cI, 9, .inl (zf (rd (cm.getD i (-1)) gl1)))), (rt, .inl (cI, 9, .inl (zf (rd key gr1))))] := hD
          refine lv_istore (lv' := [(4, .int (iI (timesK (cm.getD i (-1)) key))), (0, .ref cl), (1, .int (iI key)), (2, .int (iI (n0 : Int))), (3, .int (iI (i : Int)))]) hx hb dCL_addCoset_30 hl (by decide) rfl (fun ls hl => ?_)
          refine lv_iload hx hb dCL_addCoset_32 (lv_at hl 0 rfl) ?_
          refine lv_iconst (v := iI (-1)) hx hb dCL_addCoset_34 rfl ?_
          refine lz_icmp_eq (tgt := 62) hx hb dCL_addCoset_35 (by decide) (by have := times_bd (cm.getD i (-1)) key; omega) (by omega) (fun c_35 => ?_) (fun c_35 => ?_)
          · refine lv_iconst (v := iI (0)) hx hb dCL_addCoset_62 rfl ?_
            exact hret H locs 0 0 63 ls 0 (fs1, ff1, fc1, ((cm.length + i : Nat) : Int), fg, gc, rd (cm.getD i (-1)) gl1, rd key gr1) (Or.inr ⟨rfl, ⟨ks1, hI.1, hI.2.1⟩, by first | exact Or.inl ⟨i, by omega, c_35⟩ | exact Or.inr (by omega)⟩) (hP.sub [0, 5, 6, 7, 1, 2, 3, 4] rfl) (hD.sub [0, 5, 6, 7, 1, 2, 3, 4] (by decide) rfl) hS (Nat.zero_le _) (Nat.zero_le _) dCL_addCoset_63
          · refine lv_aload_n hx hb dCL_addCoset_38 rfl (lv_at hl 1 rfl) ?_
            refine va_get (D := D) (ci := 2) (v := .int (iI ((cm.length + i : Nat) : Int))) (C := nCL) (T := fCL) (N := 6) hx hb hts iwCL hown hK hP 0 rfl rfl 3 (by decide) (hts _ (List.mem_cons_of_mem _ lkCL_24)) (fun _ h9 => h9) rfl dCL_addCoset_39 ?_
            refine lv_aload_n hx hb dCL_addCoset_42 rfl (lv_at hl 1 rfl) ?_
            refine va_get (D := D) (ci := 2) (v := .ref ca) (C := nCL) (T := fCL) (N := 6) hx hb hts iwCL hown hK hP 0 rfl rfl 2 (by decide) (hts _ (List.mem_cons_of_mem _ lkCL_20)) (fun _ h9 => h9) rfl dCL_addCoset_43 ?_
            refine lz_alen hx hb hK hP 3 0 rfl rfl dCL_addCoset_46 ?_
            refine lz_icmp_ge (tgt := 62) hx hb dCL_addCoset_47 (by decide) (by omega) (by omega) (fun c_47 => ?_) (fun c_47 => ?_)
            · refine lv_iconst (v := iI (0)) hx hb dCL_addCoset_62 rfl ?_
              exact hret H locs 0 0 63 ls 0 (fs1, ff1, fc1, ((cm.length + i : Nat) : Int), fg, gc, rd (cm.getD i (-1)) gl1, rd key gr1) (Or.inr ⟨rfl, ⟨ks1, hI.1, hI.2.1⟩, by first | exact Or.inl ⟨i, by omega, c_35⟩ | exact Or.inr (by omega)⟩) (hP.sub [0, 5, 6, 7, 1, 2, 3, 4] rfl) (hD.sub [0, 5, 6, 7, 1, 2, 3, 4] (by decide) rfl) hS (Nat.zero_le _) (Nat.zero_le _) dCL_addCoset_63
            · obtain rfl : fs1 = (ks1.length : Int) := hI.2.1
              refine lv_aload_n hx hb dCL_addCoset_50 rfl (lv_at hl 1 rfl) ?_
              refine va_get (D := D) (ci := 2) (v := .ref fr) (C := nCL) (T := fCL) (N := 6) hx hb hts iwCL hown hK hP 0 rfl rfl 1 (by decide) (hts _ (List.mem_cons_of_mem _ lkCL_14)) (fun _ h9 => h9) rfl dCL_addCoset_51 ?_
              refine lv_iload hx hb dCL_addCoset_54 (lv_at hl 0 rfl) ?_
              refine zI.back (va_runV (As := [.int (iI (timesK (cm.getD i (-1)) key))]) (rest := []) ⟨hx, hb, hml, hown, hts⟩ ((mRO_add l D cI cG fr fa 192 ff1 ks1 (timesK (cm.getD i (-1)) key) hI.1 (by have := times_bd (cm.getD i (-1)) key; omega)) H.size) (cwV 1 hts (gT1 lkCL_42 (gT1 imRO_add (gT1 seRO_add (gT1 iniRO (gTW kcRO_add))))) rfl rfl rfl (by decide +kernel) ⟨Nat.le_of_ble_eq_true rfl, Nat.le_of_ble_eq_true rfl⟩) ⟨zPre_blind, va_recv hK hP (ci := 5) (q0 := 1) rfl rfl, zPre.at (wc := [(fr, .inr (5, [.ref fa, .int (iI (ks1.length : Int))])), (fa, .inl (cI, 192, .inl (zf ff1)))]) hK hP hD hS hA hX [1, 2] (by decide) rfl⟩ rfl rfl hl.1 rfl (lv_room (Nat.le_of_ble_eq_true rfl)) dCL_addCoset_56 ⟨Nat.le_of_ble_eq_true rfl, Nat.le_of_ble_eq_true rfl⟩) (wr := [(cl, .inr (2, [.ref b, .ref fr, .ref ca, .int (iI ((cm.length + i : Nat) : Int)), .ref ge, .int (iI gc)])), (ca, .inl (cI, 192, .inl (zf fc1))), (ge, .inl (cI, 10, .inl (zf fg))), (b, .inr (1, [.ref lf, .ref rt])), (lf, .inl (cI, 9, .inl (zf (rd (cm.getD i (-1)) gl1)))), (rt, .inl (cI, 9, .inl (zf (rd key gr1))))]) hP hD hS hA [1, 2] [0, 3, 4, 5, 6, 7] rfl rfl (by decide) (by decide) (fun z_56 u_56 H locs q_56 hP hD hS hz_56 hk_56 => ?_)
              obtain ⟨ks2, ho2, hs2, hcs⟩ := q_56
              rw [hs2] at hP hD
              have hins : z_56 = 1 ∧ rowIns ks1 ks2 (timesK (cm.getD i (-1)) key) := by
                have hnot : timesK (cm.getD i (-1)) key ∉ ks1 := by
                  rw [hmm]
                  rintro (q | ⟨j, a, b, e⟩)
                  · exact hfr i (by omega) c_35 q
                  · have := hij j i (by omega) (by omega) (by rw [e]; exact c_35) e
                    omega
                have hlen := hI.2.2.2.2.2.2.2.2
                rw [cmI_len (by omega)] at hlen
                rcases hcs with ⟨_, q, _⟩ | ⟨_, _, q, _⟩ | ⟨q1, _, _, q2⟩
                · exact absurd q hnot
                · omega
                · exact ⟨q1, q2⟩
              obtain ⟨rfl, hins⟩ := hins
              have hP : va_P D vwCl [(cl, .inr (2, [.ref b, .ref fr, .ref ca, .int (iI ((cm.length + i : Nat) : Int)), .ref ge, .int (iI gc)])), (ca, .inl (cI, 192, .inl (zf fc1))), (ge, .inl (cI, 10, .inl (zf fg))), (b, .inr (1, [.ref lf, .ref rt])), (lf, .inl (cI, 9, .inl (zf (rd (cm.getD i (-1)) gl1)))), (rt, .inl (cI, 9, .inl (zf (rd key gr1)))), (fr, .inr (5, [.ref fa, .int (iI (ks2.length : Int))])), (fa, .inl (cI, 192, .inl (zf u_56.2)))] H := hP
              have hD : va_D A [(cl, .inr (2, [.ref b, .ref fr, .ref ca, .int (iI ((cm.length + i : Nat) : Int)), .ref ge, .int (iI gc)])), (ca, .inl (cI, 192, .inl (zf fc1))), (ge, .inl (cI, 10, .inl (zf fg))), (b, .inr (1, [.ref lf, .ref rt])), (lf, .inl (cI, 9, .inl (zf (rd (cm.getD i (-1)) gl1)))), (rt, .inl (cI, 9, .inl (zf (rd key gr1)))), (fr, .inr (5, [.ref fa, .int (iI (ks2.length : Int))])), (fa, .inl (cI, 192, .inl (zf u_56.2)))] := hD
              refine lz_if_ne (tgt := 64) hx hb dCL_addCoset_59 (by decide) (by omega) (fun c_59 => ?_) (fun c_59 => ?_)
              · refine lv_aload_n hx hb dCL_addCoset_64 rfl (lv_at hl 1 rfl) ?_
                refine va_get (D := D) (ci := 2) (v := .ref ca) (C := nCL) (T := fCL) (N := 6) hx hb hts iwCL hown hK hP 0 rfl rfl 2 (by decide) (hts _ (List.mem_cons_of_mem _ lkCL_20)) (fun _ h9 => h9) rfl dCL_addCoset_65 ?_
                refine lv_aload_n hx hb dCL_addCoset_68 rfl (lv_at hl 1 rfl) ?_
                refine va_get (D := D) (ci := 2) (v := .int (iI ((cm.length + i : Nat) : Int))) (C := nCL) (T := fCL) (N := 6) hx hb hts iwCL hown hK hP 0 rfl rfl 3 (by decide) (hts _ (List.mem_cons_of_mem _ lkCL_24)) (fun _ h9 => h9) rfl dCL_addCoset_69 ?_
                refine lv_iload hx hb dCL_addCoset_72 (lv_at hl 0 rfl) ?_
                refine lz_iast hx hb hK hP hD hS 1 0 rfl rfl (z := ((cm.length + i : Nat) : Int)) (v := timesK (cm.getD i (-1)) key) (by omega) dCL_addCoset_74 (fun H locs hP hD hS => ?_)
                have hP : va_P D vwCl [(cl, .inr (2, [.ref b, .ref fr, .ref ca, .int (iI ((cm.length + i : Nat) : Int)), .ref ge, .int (iI gc)])), (ca, .inl (cI, 192, .inl (zf (zu fc1 (((cm.length + i : Nat) : Int)).toNat (timesK (cm.getD i (-1)) key))))), (ge, .inl (cI, 10, .inl (zf fg))), (b, .inr (1, [.ref lf, .ref rt])), (lf, .inl (cI, 9, .inl (zf (rd (cm.getD i (-1)) gl1)))), (rt, .inl (cI, 9, .inl (zf (rd key gr1)))), (fr, .inr (5, [.ref fa, .int (iI (ks2.length : Int))])), (fa, .inl (cI, 192, .inl (zf u_56.2)))] H := hP
                have hD : va_D A [(cl, .inr (2, [.ref b, .ref fr, .ref ca, .int (iI ((cm.length + i : Nat) : Int)), .ref ge, .int (iI gc)])), (ca, .inl (cI, 192, .inl (zf (zu fc1 (((cm.length + i : Nat) : Int)).toNat (timesK (cm.getD i (-1)) key))))), (ge, .inl (cI, 10, .inl (zf fg))), (b, .inr (1, [.ref lf, .ref rt])), (lf, .inl (cI, 9, .inl (zf (rd (cm.getD i (-1)) gl1)))), (rt, .inl (cI, 9, .inl (zf (rd key gr1)))), (fr, .inr (5, [.ref fa, .int (iI (ks2.length : Int))])), (fa, .inl (cI, 192, .inl (zf u_56.2)))] := hD
                refine lv_aload_n hx hb dCL_addCoset_75 rfl (lv_at hl 1 rfl) ?_
                refine lv_dup hx hb dCL_addCoset_76 rfl ?_
                refine va_get (D := D) (ci := 2) (v := .int (iI ((cm.length + i : Nat) : Int))) (C := nCL) (T := fCL) (N := 6) hx hb hts iwCL hown hK hP 0 rfl rfl 3 (by decide) (hts _ (List.mem_cons_of_mem _ lkCL_24)) (fun _ h9 => h9) rfl dCL_addCoset_77 ?_
                refine lv_iconst (v := iI (1)) hx hb dCL_addCoset_80 rfl ?_
                refine lz_iadd hx hb dCL_addCoset_81 ?_
                refine va_put (D := D) (ci := 2) (v := .int (iI (((cm.length + i : Nat) : Int) + 1))) (ty := .int) (C := nCL) (T := fCL) (N := 6) hx hb hts iwCL tCL tkCL nmCL hown hK hP hD hS 0 rfl rfl 3 (by decide) (hts _ (List.mem_cons_of_mem _ lkCL_24)) (fun _ h9 => h9) rfl (by decide +kernel) rfl rfl (Nat.le_of_ble_eq_true rfl) dCL_addCoset_82 (fun H locs hP hD hS => ?_)
                have hP : va_P D vwCl [(cl, .inr (2, [.ref b, .ref fr, .ref ca, .int (iI (((cm.length + i : Nat) : Int) + 1)), .ref ge, .int (iI gc)])), (ca, .inl (cI, 192, .inl (zf (zu fc1 (((cm.length + i : Nat) : Int)).toNat (timesK (cm.getD i (-1)) key))))), (ge, .inl (cI, 10, .inl (zf fg))), (b, .inr (1, [.ref lf, .ref rt])), (lf, .inl (cI, 9, .inl (zf (rd (cm.getD i (-1)) gl1)))), (rt, .inl (cI, 9, .inl (zf (rd key gr1)))), (fr, .inr (5, [.ref fa, .int (iI (ks2.length : Int))])), (fa, .inl (cI, 192, .inl (zf u_56.2)))] H := hP
                have hD : va_D A [(cl, .inr (2, [.ref b, .ref fr, .ref ca, .int (iI (((cm.length + i : Nat) : Int) + 1)), .ref ge, .int (iI gc)])), (ca, .inl (cI, 192, .inl (zf (zu fc1 (((cm.length + i : Nat) : Int)).toNat (timesK (cm.getD i (-1)) key))))), (ge, .inl (cI, 10, .inl (zf fg))), (b, .inr (1, [.ref lf, .ref rt])), (lf, .inl (cI, 9, .inl (zf (rd (cm.getD i (-1)) gl1)))), (rt, .inl (cI, 9, .inl (zf (rd key gr1)))), (fr, .inr (5, [.ref fa, .int (iI (ks2.length : Int))])), (fa, .inl (cI, 192, .inl (zf u_56.2)))] := hD
                refine lz_iinc (lv' := [(3, .int (iI ((i : Int) + 1))), (4, .int (iI (timesK (cm.getD i (-1)) key))), (0, .ref cl), (1, .int (iI key)), (2, .int (iI (n0 : Int)))]) hx hb dCL_addCoset_85 hl (k := 4) rfl (by decide) rfl (fun ls hl => ?_)
                refine lv_goto (tgt := 2) hx hb dCL_addCoset_88 (by decide) ?_
                exact ih2 (i + 1) (ks2.length : Int) u_56.2 (zu fc1 (cm.length + i) (timesK (cm.getD i (-1)) key)) (rd (cm.getD i (-1)) gl1) (rd key gr1) ks2 (by omega) (by have := cst_step hI (by rw [cmI_len (by omega)]; omega) ho2 hins; rw [cmI_s (by omega), show ((cm.length + (i + 1) : Nat) : Int) = ((cm.length + i : Nat) : Int) + 1 by omega]; rw [cmI_len (by omega)] at this; exact this) (fun j hj => by
                    rcases Nat.lt_or_ge j i with q | q
                    · exact hne j q
                    · obtain rfl : j = i := by omega
                      exact c_35) (fun y => by
                    rw [hins.1 y, hmm y]
                    constructor
                    · rintro ((q | ⟨j, a, b, e⟩) | q)
                      · exact Or.inl q
                      · exact Or.inr ⟨j, by omega, b, e⟩
                      · exact Or.inr ⟨i, by omega, by omega, q.symm⟩
                    · rintro (q | ⟨j, a, b, e⟩)
                      · exact Or.inl (Or.inl q)
                      · rcases Nat.lt_or_ge j i with q | q
                        · exact Or.inl (Or.inr ⟨j, q, b, e⟩)
                        · obtain rfl : j = i := by omega
                          exact Or.inr e.symm) (by omega) _ _ (hP.sub [0, 3, 4, 5, 6, 7, 1, 2] rfl) (hD.sub [0, 3, 4, 5, 6, 7, 1, 2] (by decide) rfl) hS _ (lv_sub hl [2, 3, 4, 0] rfl)
              · exact absurd c_59 (by omega)
  exact lp2 _ 0 (ks.length : Int) ff fc gl gr ks (Nat.zero_le _) (by rw [cmI_0]; exact hst) (fun j hj => absurd hj (Nat.not_lt_zero _)) (fun y => ⟨Or.inl, fun q => by rcases q with q | ⟨j, a, _⟩ <;> first | exact q | exact absurd a (Nat.not_lt_zero _)⟩) (Nat.lt_succ_self _) _ _ (hP.sub [0, 1, 2, 3, 4, 5, 6, 7] rfl) (hD.sub [0, 1, 2, 3, 4, 5, 6, 7] (by decide) rfl) hS _ (lv_sub hl [1, 2, 3, 0] rfl)

def rmCL_start : Room := { frames := 2, cells := 0, slots := 0, locals := 82 }
set_option maxHeartbeats 4000000 in
set_option maxRecDepth 100000 in
theorem mCL_start (l : Launch) (D : va_G) (cI cG : ClassId) (cl b lf rt fr fa ca ge : Nat) (fs : Int) (ff fc : Nat → Int) (cc : Int) (fg : Nat → Int) (gc : Int) (gl gr : Nat → Int) (ks : List Int) (hr : rowOK 192 ff ks) (hfs : fs = (ks.length : Int)) : zV l yCL_start wCL_start rmCL_start D vwCl (zT cI cG) [.ref cl] [(cl, .inr (2, [.ref b, .ref fr, .ref ca, .int (iI cc), .ref ge, .int (iI gc)])), (b, .inr (1, [.ref lf, .ref rt])), (lf, .inl (cI, 9, .inl (zf gl))), (rt, .inl (cI, 9, .inl (zf gr))), (fr, .inr (5, [.ref fa, .int (iI fs)])), (fa, .inl (cI, 192, .inl (zf ff))), (ca, .inl (cI, 192, .inl (zf fc))), (ge, .inl (cI, 10, .inl (zf fg)))] (S := CS) (fun u => CSt u.1 u.2.1 u.2.2.1 u.2.2.2.1 u.2.2.2.2.1 u.2.2.2.2.2.1 [u0] [u0] []) (fun u => [(cl, .inr (2, [.ref b, .ref fr, .ref ca, .int (iI u.2.2.2.1), .ref ge, .int (iI u.2.2.2.2.2.1)])), (b, .inr (1, [.ref lf, .ref rt])), (lf, .inl (cI, 9, .inl (zf u.2.2.2.2.2.2.1))), (rt, .inl (cI, 9, .inl (zf u.2.2.2.2.2.2.2))), (fr, .inr (5, [.ref fa, .int (iI u.1)])), (fa, .inl (cI, 192, .inl (zf u.2.1))), (ca, .inl (cI, 192, .inl (zf u.2.2.1))), (ge, .inl (cI, 10, .inl (zf u.2.2.2.2.1)))]) := by
  refine zV.of (cc := cCL_start) (maxL := 1) (by decide) rfl (Nat.le_of_ble_eq_true rfl) ?_
  intro p e s m args below meth c A ls Q hx hb hml hown hts hnm hK hD hA hAe hX hl hret H locs hP hS
  have hl : lv_has ls 1 [(0, .ref cl)] := hl
  subst hfs
  have hr0 : rowOK 192 ff [] := ⟨by decide, by decide, fun j hj => absurd hj (Nat.not_lt_zero _), List.Pairwise.nil, fun x hx => absurd hx List.not_mem_nil⟩
  refine lv_aload_n hx hb dCL_start_0 rfl (lv_at hl 0 rfl) ?_
  refine va_get (D := D) (ci := 2) (v := .ref fr) (C := nCL) (T := fCL) (N := 6) hx hb hts iwCL hown hK hP 0 rfl rfl 1 (by decide) (hts _ (List.mem_cons_of_mem _ lkCL_14)) (fun _ h9 => h9) rfl dCL_start_1 ?_
  refine zV.back (va_runV (As := []) (rest := []) ⟨hx, hb, hml, hown, hts⟩ ((mRO_clear l D cI cG fr fa (ks.length : Int)) H.size) (cwV 0 hts (gT1 lkCL_38 (gT1 imRO_clear (gT1 seRO_clear (gT1 iniRO (gTW kcRO_clear))))) rfl rfl rfl (by decide +kernel) ⟨Nat.le_of_ble_eq_true rfl, Nat.le_of_ble_eq_true rfl⟩) ⟨zPre_blind, va_recv hK hP (ci := 5) (q0 := 4) rfl rfl, zPre.at (wc := [(fr, .inr (5, [.ref fa, .int (iI (ks.length : Int))]))]) hK hP hD hS hA hX [4] (by decide) rfl⟩ rfl rfl hl.1 rfl (lv_room (Nat.le_of_ble_eq_true rfl)) dCL_start_4 ⟨Nat.le_of_ble_eq_true rfl, Nat.le_of_ble_eq_true rfl⟩) (wr := [(cl, .inr (2, [.ref b, .ref fr, .ref ca, .int (iI cc), .ref ge, .int (iI gc)])), (b, .inr (1, [.ref lf, .ref rt])), (lf, .inl (cI, 9, .inl (zf gl))), (rt, .inl (cI, 9, .inl (zf gr))), (fa, .inl (cI, 192, .inl (zf ff))), (ca, .inl (cI, 192, .inl (zf fc))), (ge, .inl (cI, 10, .inl (zf fg)))]) hP hD hS hA [4] [0, 1, 2, 3, 5, 6, 7] rfl rfl (by decide) (by decide) (fun u_4 H locs q_4 hP hD hS hz_4 hk_4 => ?_)
  have hP : va_P D vwCl [(cl, .inr (2, [.ref b, .ref fr, .ref ca, .int (iI cc), .ref ge, .int (iI gc)])), (b, .inr (1, [.ref lf, .ref rt])), (lf, .inl (cI, 9, .inl (zf gl))), (rt, .inl (cI, 9, .inl (zf gr))), (fa, .inl (cI, 192, .inl (zf ff))), (ca, .inl (cI, 192, .inl (zf fc))), (ge, .inl (cI, 10, .inl (zf fg))), (fr, .inr (5, [.ref fa, .int (iI (([] : List Int).length : Int))]))] H := hP
  have hD : va_D A [(cl, .inr (2, [.ref b, .ref fr, .ref ca, .int (iI cc), .ref ge, .int (iI gc)])), (b, .inr (1, [.ref lf, .ref rt])), (lf, .inl (cI, 9, .inl (zf gl))), (rt, .inl (cI, 9, .inl (zf gr))), (fa, .inl (cI, 192, .inl (zf ff))), (ca, .inl (cI, 192, .inl (zf fc))), (ge, .inl (cI, 10, .inl (zf fg))), (fr, .inr (5, [.ref fa, .int (iI (([] : List Int).length : Int))]))] := hD
  refine lv_aload_n hx hb dCL_start_7 rfl (lv_at hl 0 rfl) ?_
  refine va_get (D := D) (ci := 2) (v := .ref fr) (C := nCL) (T := fCL) (N := 6) hx hb hts iwCL hown hK hP 0 rfl rfl 1 (by decide) (hts _ (List.mem_cons_of_mem _ lkCL_14)) (fun _ h9 => h9) rfl dCL_start_8 ?_
  refine lz_ldc (z := 227874816) hx hb hown (hts _ (List.mem_cons_of_mem _ lkCL_41)) (by decide) dCL_start_11 ?_
  refine zI.back (va_runV (As := [.int (iI 227874816)]) (rest := []) ⟨hx, hb, hml, hown, hts⟩ ((mRO_add l D cI cG fr fa 192 ff [] 227874816 hr0 (by decide)) H.size) (cwV 1 hts (gT1 lkCL_42 (gT1 imRO_add (gT1 seRO_add (gT1 iniRO (gTW kcRO_add))))) rfl rfl rfl (by decide +kernel) ⟨Nat.le_of_ble_eq_true rfl, Nat.le_of_ble_eq_true rfl⟩) ⟨zPre_blind, va_recv hK hP (ci := 5) (q0 := 7) rfl rfl, zPre.at (wc := [(fr, .inr (5, [.ref fa, .int (iI (([] : List Int).length : Int))])), (fa, .inl (cI, 192, .inl (zf ff)))]) hK hP hD hS hA hX [7, 4] (by decide) rfl⟩ rfl rfl hl.1 rfl (lv_room (Nat.le_of_ble_eq_true rfl)) dCL_start_13 ⟨Nat.le_of_ble_eq_true rfl, Nat.le_of_ble_eq_true rfl⟩) (wr := [(cl, .inr (2, [.ref b, .ref fr, .ref ca, .int (iI cc), .ref ge, .int (iI gc)])), (b, .inr (1, [.ref lf, .ref rt])), (lf, .inl (cI, 9, .inl (zf gl))), (rt, .inl (cI, 9, .inl (zf gr))), (ca, .inl (cI, 192, .inl (zf fc))), (ge, .inl (cI, 10, .inl (zf fg)))]) hP hD hS hA [7, 4] [0, 1, 2, 3, 5, 6] rfl rfl (by decide) (by decide) (fun z_13 u_13 H locs q_13 hP hD hS hz_13 hk_13 => ?_)
  obtain ⟨ks2, ho2, hs2, hcs⟩ := q_13
  have hk2 : ks2 = [u0] := by
    rcases hcs with ⟨_, q, _⟩ | ⟨_, _, q, _⟩ | ⟨_, _, _, q⟩
    · exact absurd q List.not_mem_nil
    · exact absurd q (by decide)
    · have h1 := q.2
      obtain ⟨x, rfl⟩ := List.length_eq_one_iff.mp h1
      have h2 := (q.1 x).mp List.mem_cons_self
      rcases h2 with h2 | h2
      · exact absurd h2 List.not_mem_nil
      · rw [h2]; rfl
  subst hk2
  have hP : va_P D vwCl [(cl, .inr (2, [.ref b, .ref fr, .ref ca, .int (iI cc), .ref ge, .int (iI gc)])), (b, .inr (1, [.ref lf, .ref rt])), (lf, .inl (cI, 9, .inl (zf gl))), (rt, .inl (cI, 9, .inl (zf gr))), (ca, .inl (cI, 192, .inl (zf fc))), (ge, .inl (cI, 10, .inl (zf fg))), (fr, .inr (5, [.ref fa, .int (iI u_13.1)])), (fa, .inl (cI, 192, .inl (zf u_13.2)))] H := hP
  have hD : va_D A [(cl, .inr (2, [.ref b, .ref fr, .ref ca, .int (iI cc), .ref ge, .int (iI gc)])), (b, .inr (1, [.ref lf, .ref rt])), (lf, .inl (cI, 9, .inl (zf gl))), (rt, .inl (cI, 9, .inl (zf gr))), (ca, .inl (cI, 192, .inl (zf fc))), (ge, .inl (cI, 10, .inl (zf fg))), (fr, .inr (5, [.ref fa, .int (iI u_13.1)])), (fa, .inl (cI, 192, .inl (zf u_13.2)))] := hD
  refine lv_pop hx hb dCL_start_16 rfl ?_
  refine lv_aload_n hx hb dCL_start_17 rfl (lv_at hl 0 rfl) ?_
  refine va_get (D := D) (ci := 2) (v := .ref ca) (C := nCL) (T := fCL) (N := 6) hx hb hts iwCL hown hK hP 0 rfl rfl 2 (by decide) (hts _ (List.mem_cons_of_mem _ lkCL_20)) (fun _ h9 => h9) rfl dCL_start_18 ?_
  refine lv_iconst (v := iI (0)) hx hb dCL_start_21 rfl ?_
  refine lz_ldc (z := 227874816) hx hb hown (hts _ (List.mem_cons_of_mem _ lkCL_41)) (by decide) dCL_start_22 ?_
  refine lz_iask hx hb hK hP hD hS 4 0 rfl rfl (z := 0) (v := 227874816) 0 rfl (by decide) dCL_start_24 (fun H locs hP hD hS => ?_)
  have hP : va_P D vwCl [(cl, .inr (2, [.ref b, .ref fr, .ref ca, .int (iI cc), .ref ge, .int (iI gc)])), (b, .inr (1, [.ref lf, .ref rt])), (lf, .inl (cI, 9, .inl (zf gl))), (rt, .inl (cI, 9, .inl (zf gr))), (ca, .inl (cI, 192, .inl (zf (zu fc 0 227874816)))), (ge, .inl (cI, 10, .inl (zf fg))), (fr, .inr (5, [.ref fa, .int (iI u_13.1)])), (fa, .inl (cI, 192, .inl (zf u_13.2)))] H := hP
  have hD : va_D A [(cl, .inr (2, [.ref b, .ref fr, .ref ca, .int (iI cc), .ref ge, .int (iI gc)])), (b, .inr (1, [.ref lf, .ref rt])), (lf, .inl (cI, 9, .inl (zf gl))), (rt, .inl (cI, 9, .inl (zf gr))), (ca, .inl (cI, 192, .inl (zf (zu fc 0 227874816)))), (ge, .inl (cI, 10, .inl (zf fg))), (fr, .inr (5, [.ref fa, .int (iI u_13.1)])), (fa, .inl (cI, 192, .inl (zf u_13.2)))] := hD
  refine lv_aload_n hx hb dCL_start_25 rfl (lv_at hl 0 rfl) ?_
  refine lv_iconst (v := iI (1)) hx hb dCL_start_26 rfl ?_
  refine va_put (D := D) (ci := 2) (v := .int (iI 1)) (ty := .int) (C := nCL) (T := fCL) (N := 6) hx hb hts iwCL tCL tkCL nmCL hown hK hP hD hS 0 rfl rfl 3 (by decide) (hts _ (List.mem_cons_of_mem _ lkCL_24)) (fun _ h9 => h9) rfl (by decide +kernel) rfl rfl (Nat.le_of_ble_eq_true rfl) dCL_start_27 (fun H locs hP hD hS => ?_)
  have hP : va_P D vwCl [(cl, .inr (2, [.ref b, .ref fr, .ref ca, .int (iI 1), .ref ge, .int (iI gc)])), (b, .inr (1, [.ref lf, .ref rt])), (lf, .inl (cI, 9, .inl (zf gl))), (rt, .inl (cI, 9, .inl (zf gr))), (ca, .inl (cI, 192, .inl (zf (zu fc 0 227874816)))), (ge, .inl (cI, 10, .inl (zf fg))), (fr, .inr (5, [.ref fa, .int (iI u_13.1)])), (fa, .inl (cI, 192, .inl (zf u_13.2)))] H := hP
  have hD : va_D A [(cl, .inr (2, [.ref b, .ref fr, .ref ca, .int (iI 1), .ref ge, .int (iI gc)])), (b, .inr (1, [.ref lf, .ref rt])), (lf, .inl (cI, 9, .inl (zf gl))), (rt, .inl (cI, 9, .inl (zf gr))), (ca, .inl (cI, 192, .inl (zf (zu fc 0 227874816)))), (ge, .inl (cI, 10, .inl (zf fg))), (fr, .inr (5, [.ref fa, .int (iI u_13.1)])), (fa, .inl (cI, 192, .inl (zf u_13.2)))] := hD
  refine lv_aload_n hx hb dCL_start_30 rfl (lv_at hl 0 rfl) ?_
  refine lv_iconst (v := iI (0)) hx hb dCL_start_31 rfl ?_
  refine va_put (D := D) (ci := 2) (v := .int (iI 0)) (ty := .int) (C := nCL) (T := fCL) (N := 6) hx hb hts iwCL tCL tkCL nmCL hown hK hP hD hS 0 rfl rfl 5 (by decide) (hts _ (List.mem_cons_of_mem _ lkCL_31)) (fun _ h9 => h9) rfl (by decide +kernel) rfl rfl (Nat.le_of_ble_eq_true rfl) dCL_start_32 (fun H locs hP hD hS => ?_)
  have hP : va_P D vwCl [(cl, .inr (2, [.ref b, .ref fr, .ref ca, .int (iI 1), .ref ge, .int (iI 0)])), (b, .inr (1, [.ref lf, .ref rt])), (lf, .inl (cI, 9, .inl (zf gl))), (rt, .inl (cI, 9, .inl (zf gr))), (ca, .inl (cI, 192, .inl (zf (zu fc 0 227874816)))), (ge, .inl (cI, 10, .inl (zf fg))), (fr, .inr (5, [.ref fa, .int (iI u_13.1)])), (fa, .inl (cI, 192, .inl (zf u_13.2)))] H := hP
  have hD : va_D A [(cl, .inr (2, [.ref b, .ref fr, .ref ca, .int (iI 1), .ref ge, .int (iI 0)])), (b, .inr (1, [.ref lf, .ref rt])), (lf, .inl (cI, 9, .inl (zf gl))), (rt, .inl (cI, 9, .inl (zf gr))), (ca, .inl (cI, 192, .inl (zf (zu fc 0 227874816)))), (ge, .inl (cI, 10, .inl (zf fg))), (fr, .inr (5, [.ref fa, .int (iI u_13.1)])), (fa, .inl (cI, 192, .inl (zf u_13.2)))] := hD
  exact hret H locs 0 0 35 ls (u_13.1, u_13.2, zu fc 0 227874816, 1, fg, 0, gl, gr) ⟨ho2, hs2, (fun j hj => by
      have h0 : j = 0 := by simpa using hj
      subst h0
      rfl), rfl, by decide, fun j hj => absurd hj (Nat.not_lt_zero _), rfl, by decide, rfl⟩ (hP.sub [0, 1, 2, 3, 6, 7, 4, 5] rfl) (hD.sub [0, 1, 2, 3, 6, 7, 4, 5] (by decide) rfl) hS (Nat.zero_le _) (Nat.zero_le _) dCL_start_35
