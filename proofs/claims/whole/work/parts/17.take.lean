/-! Closure.take: written by wip/whole/gentake.py -/
def rmCL_take : Room := { frames := 3, cells := 0, slots := 0, locals := 106 }
set_option maxHeartbeats 4000000 in
set_option maxRecDepth 100000 in
theorem mCL_take (l : Launch) (D : va_G) (cI cG : ClassId) (cl b lf rt fr fa ca ge : Nat) (fs : Int) (ff fc : Nat → Int) (cc : Int) (fg : Nat → Int) (gc : Int) (gl gr : Nat → Int) (ks cm gs : List Int) (key : Int) (hst : CSt fs ff fc cc fg gc ks cm gs) (hci : CIv ks cm gs) (hkv : vOK key) : zI l yCL_take wCL_take rmCL_take D vwCl (zT cI cG) [.ref cl, .int (iI key)] [(cl, .inr (2, [.ref b, .ref fr, .ref ca, .int (iI cc), .ref ge, .int (iI gc)])), (b, .inr (1, [.ref lf, .ref rt])), (lf, .inl (cI, 9, .inl (zf gl))), (rt, .inl (cI, 9, .inl (zf gr))), (fr, .inr (5, [.ref fa, .int (iI fs)])), (fa, .inl (cI, 192, .inl (zf ff))), (ca, .inl (cI, 192, .inl (zf fc))), (ge, .inl (cI, 10, .inl (zf fg)))] (S := CS) (fun z u => (z = 1 ∧ ∃ ks2 cm2 gs2, CSt u.1 u.2.1 u.2.2.1 u.2.2.2.1 u.2.2.2.2.1 u.2.2.2.2.2.1 ks2 cm2 gs2 ∧ CIv ks2 cm2 gs2 ∧ key ∈ ks2 ∧ (gs2 = gs ∨ gs2 = gs ++ [key])) ∨ (z = 0 ∧ (∃ ks2, rowOK 192 u.2.1 ks2 ∧ u.1 = (ks2.length : Int)) ∧ ¬ ∃ G, genOK (gs ++ [key]) G)) (fun u => [(cl, .inr (2, [.ref b, .ref fr, .ref ca, .int (iI u.2.2.2.1), .ref ge, .int (iI u.2.2.2.2.2.1)])), (b, .inr (1, [.ref lf, .ref rt])), (lf, .inl (cI, 9, .inl (zf u.2.2.2.2.2.2.1))), (rt, .inl (cI, 9, .inl (zf u.2.2.2.2.2.2.2))), (fr, .inr (5, [.ref fa, .int (iI u.1)])), (fa, .inl (cI, 192, .inl (zf u.2.1))), (ca, .inl (cI, 192, .inl (zf u.2.2.1))), (ge, .inl (cI, 10, .inl (zf u.2.2.2.2.1)))]) := by
  refine zI.of (cc := cCL_take) (maxL := 6) (rt := .boolean) (by decide) rfl (Nat.le_of_ble_eq_true rfl) (fun z u h => by rcases h with ⟨rfl, _⟩ | ⟨rfl, _⟩ <;> decide) ?_
  intro p e s m args below meth c A ls Q hx hb hml hown hts hnm hK hD hA hAe hX hl hret H locs hP hS
  have hl : lv_has ls 6 [(0, .ref cl), (1, .int (iI key))] := hl
  have hcm := hst.2.2.2.2.1
  have hkey2 := hkv.1
  unfold kOK at hkey2
  have hgl := pow_small hci.2.2.2.2.1 hcm
  have hcp := hci.1.pos
  obtain rfl : fs = (ks.length : Int) := hst.2.1
  obtain rfl : cc = (cm.length : Int) := hst.2.2.2.1
  obtain rfl : gc = (gs.length : Int) := hst.2.2.2.2.2.2.1
  have hgv : ∀ a ∈ gs ++ [key], vOK a := fun a ha => (List.mem_append.mp ha).elim (fun q => hci.2.2.2.2.2.1 a q) (fun q => by rw [List.mem_singleton.mp q]; exact hkv)
  have hgln : (gs ++ [key]).length = gs.length + 1 := by rw [List.length_append]; rfl
  refine lv_aload_n hx hb dCL_take_0 rfl (lv_at hl 0 rfl) ?_
  refine va_get (D := D) (ci := 2) (v := .ref fr) (C := nCL) (T := fCL) (N := 6) hx hb hts iwCL hown hK hP 0 rfl rfl 1 (by decide) (hts _ (List.mem_cons_of_mem _ lkCL_14)) (fun _ h9 => h9) rfl dCL_take_1 ?_
  refine lv_iload_n hx hb dCL_take_4 rfl (lv_at hl 1 rfl) ?_
  refine zRI.back ((va_runV (As := [.int (iI key)]) (rest := []) ⟨hx, hb, hml, hown, hts⟩ (mRO_has l D cI cG fr fa 192 ff ks key hst.1 (by omega)) (cwV 1 hts (gT1 lkCL_46 (gT1 imRO_has (gT1 seRO_has (gT1 iniRO (gTW kcRO_has))))) rfl rfl rfl (by decide +kernel) ⟨Nat.le_of_ble_eq_true rfl, Nat.le_of_ble_eq_true rfl⟩) ⟨zRd_blind, va_recv hK hP (ci := 5) (q0 := 4) rfl rfl, zRd.at (wc := [(fr, .inr (5, [.ref fa, .int (iI (ks.length : Int))])), (fa, .inl (cI, 192, .inl (zf ff)))]) hK (hP.sub (ws' := [(fr, .inr (5, [.ref fa, .int (iI (ks.length : Int))])), (fa, .inl (cI, 192, .inl (zf ff)))]) [4, 5] rfl) (stF.now hX hS)⟩ rfl rfl hl.1 rfl (lv_room (Nat.le_of_ble_eq_true rfl)) dCL_take_5 ⟨Nat.le_of_ble_eq_true rfl, Nat.le_of_ble_eq_true rfl⟩).run) (fun z_5 q_5 => ?_)
  have q_5 : (z_5 = 1 ∧ key ∈ ks) ∨ (z_5 = 0 ∧ key ∉ ks) := q_5
  refine lz_if_eq (tgt := 13) hx hb dCL_take_8 (by decide) (by rcases q_5 with ⟨q, _⟩ | ⟨q, _⟩ <;> omega) (fun c_8 => ?_) (fun c_8 => ?_)
  · have hkx : key ∉ ks := by rcases q_5 with ⟨q, _⟩ | ⟨_, q⟩ <;> first | exact q | omega
    refine lv_aload_n hx hb dCL_take_13 rfl (lv_at hl 0 rfl) ?_
    refine va_get (D := D) (ci := 2) (v := .int (iI (gs.length : Int))) (C := nCL) (T := fCL) (N := 6) hx hb hts iwCL hown hK hP 0 rfl rfl 5 (by decide) (hts _ (List.mem_cons_of_mem _ lkCL_31)) (fun _ h9 => h9) rfl dCL_take_14 ?_
    refine lv_aload_n hx hb dCL_take_17 rfl (lv_at hl 0 rfl) ?_
    refine va_get (D := D) (ci := 2) (v := .ref ge) (C := nCL) (T := fCL) (N := 6) hx hb hts iwCL hown hK hP 0 rfl rfl 4 (by decide) (hts _ (List.mem_cons_of_mem _ lkCL_28)) (fun _ h9 => h9) rfl dCL_take_18 ?_
    refine lz_alen hx hb hK hP 7 0 rfl rfl dCL_take_21 ?_
    refine lz_icmp_lt (tgt := 27) hx hb dCL_take_22 (by decide) (by omega) (by omega) (fun c_22 => ?_) (fun c_22 => ?_)
    · refine lv_aload_n hx hb dCL_take_27 rfl (lv_at hl 0 rfl) ?_
      refine va_get (D := D) (ci := 2) (v := .ref ge) (C := nCL) (T := fCL) (N := 6) hx hb hts iwCL hown hK hP 0 rfl rfl 4 (by decide) (hts _ (List.mem_cons_of_mem _ lkCL_28)) (fun _ h9 => h9) rfl dCL_take_28 ?_
      refine lv_aload_n hx hb dCL_take_31 rfl (lv_at hl 0 rfl) ?_
      refine va_get (D := D) (ci := 2) (v := .int (iI (gs.length : Int))) (C := nCL) (T := fCL) (N := 6) hx hb hts iwCL hown hK hP 0 rfl rfl 5 (by decide) (hts _ (List.mem_cons_of_mem _ lkCL_31)) (fun _ h9 => h9) rfl dCL_take_32 ?_
      refine lv_iload_n hx hb dCL_take_35 rfl (lv_at hl 1 rfl) ?_
      refine lz_iask hx hb hK hP hD hS 7 0 rfl rfl (z := (gs.length : Int)) (v := key) gs.length rfl (by omega) dCL_take_36 (fun H locs hP hD hS => ?_)
      have hP : va_P D vwCl [(cl, .inr (2, [.ref b, .ref fr, .ref ca, .int (iI (cm.length : Int)), .ref ge, .int (iI (gs.length : Int))])), (b, .inr (1, [.ref lf, .ref rt])), (lf, .inl (cI, 9, .inl (zf gl))), (rt, .inl (cI, 9, .inl (zf gr))), (fr, .inr (5, [.ref fa, .int (iI (ks.length : Int))])), (fa, .inl (cI, 192, .inl (zf ff))), (ca, .inl (cI, 192, .inl (zf fc))), (ge, .inl (cI, 10, .inl (zf (zu fg gs.length key))))] H := hP
      have hD : va_D A [(cl, .inr (2, [.ref b, .ref fr, .ref ca, .int (iI (cm.length : Int)), .ref ge, .int (iI (gs.length : Int))])), (b, .inr (1, [.ref lf, .ref rt])), (lf, .inl (cI, 9, .inl (zf gl))), (rt, .inl (cI, 9, .inl (zf gr))), (fr, .inr (5, [.ref fa, .int (iI (ks.length : Int))])), (fa, .inl (cI, 192, .inl (zf ff))), (ca, .inl (cI, 192, .inl (zf fc))), (ge, .inl (cI, 10, .inl (zf (zu fg gs.length key))))] := hD
      refine lv_aload_n hx hb dCL_take_37 rfl (lv_at hl 0 rfl) ?_
      refine lv_dup hx hb dCL_take_38 rfl ?_
      refine va_get (D := D) (ci := 2) (v := .int (iI (gs.length : Int))) (C := nCL) (T := fCL) (N := 6) hx hb hts iwCL hown hK hP 0 rfl rfl 5 (by decide) (hts _ (List.mem_cons_of_mem _ lkCL_31)) (fun _ h9 => h9) rfl dCL_take_39 ?_
      refine lv_iconst (v := iI (1)) hx hb dCL_take_42 rfl ?_
      refine lz_iadd hx hb dCL_take_43 ?_
      refine va_put (D := D) (ci := 2) (v := .int (iI ((gs.length : Int) + 1))) (ty := .int) (C := nCL) (T := fCL) (N := 6) hx hb hts iwCL tCL tkCL nmCL hown hK hP hD hS 0 rfl rfl 5 (by decide) (hts _ (List.mem_cons_of_mem _ lkCL_31)) (fun _ h9 => h9) rfl (by decide +kernel) rfl rfl (Nat.le_of_ble_eq_true rfl) dCL_take_44 (fun H locs hP hD hS => ?_)
      have hP : va_P D vwCl [(cl, .inr (2, [.ref b, .ref fr, .ref ca, .int (iI (cm.length : Int)), .ref ge, .int (iI ((gs.length : Int) + 1))])), (b, .inr (1, [.ref lf, .ref rt])), (lf, .inl (cI, 9, .inl (zf gl))), (rt, .inl (cI, 9, .inl (zf gr))), (fr, .inr (5, [.ref fa, .int (iI (ks.length : Int))])), (fa, .inl (cI, 192, .inl (zf ff))), (ca, .inl (cI, 192, .inl (zf fc))), (ge, .inl (cI, 10, .inl (zf (zu fg gs.length key))))] H := hP
      have hD : va_D A [(cl, .inr (2, [.ref b, .ref fr, .ref ca, .int (iI (cm.length : Int)), .ref ge, .int (iI ((gs.length : Int) + 1))])), (b, .inr (1, [.ref lf, .ref rt])), (lf, .inl (cI, 9, .inl (zf gl))), (rt, .inl (cI, 9, .inl (zf gr))), (fr, .inr (5, [.ref fa, .int (iI (ks.length : Int))])), (fa, .inl (cI, 192, .inl (zf ff))), (ca, .inl (cI, 192, .inl (zf fc))), (ge, .inl (cI, 10, .inl (zf (zu fg gs.length key))))] := hD
      rw [show (gs.length : Int) + 1 = ((gs ++ [key]).length : Int) from by rw [hgln]; rfl] at hP hD
      have hst2 : CSt (ks.length : Int) ff fc (cm.length : Int) (zu fg gs.length key) ((gs ++ [key]).length : Int) ks cm (gs ++ [key]) := ⟨hst.1, rfl, hst.2.2.1, rfl, hcm, (fun j hj => by
        rw [getD_snoc]
        unfold zu
        rw [hgln] at hj
        by_cases q : j < gs.length
        · rw [if_neg (by omega), if_pos q]; exact hst.2.2.2.2.2.1 j q
        · rw [if_pos (by omega), if_neg q, if_pos (by omega)]), rfl, by rw [hgln]; omega, hst.2.2.2.2.2.2.2.2⟩
      refine lv_aload_n hx hb dCL_take_47 rfl (lv_at hl 0 rfl) ?_
      refine va_get (D := D) (ci := 2) (v := .int (iI (cm.length : Int))) (C := nCL) (T := fCL) (N := 6) hx hb hts iwCL hown hK hP 0 rfl rfl 3 (by decide) (hts _ (List.mem_cons_of_mem _ lkCL_24)) (fun _ h9 => h9) rfl dCL_take_48 ?_
      refine lv_iconst (v := iI (1)) hx hb dCL_take_51 rfl ?_
      refine lz_max (z := (cm.length : Int)) hx hb (by rw [hml]; exact hl.1.symm) hown (hts _ (List.mem_cons_of_mem _ lkCL_49)) (hts _ (List.mem_cons_of_mem _ smJM_max)) (hts _ (List.mem_cons_of_mem _ iniJM)) (hts _ (List.mem_cons_of_mem _ kcJM_max)) (Nat.le_of_ble_eq_true rfl) (Nat.le_of_ble_eq_true rfl) (Nat.zero_le _) (Nat.zero_le _) (by omega) (by omega) (by rw [if_neg (by omega)]) dCL_take_52 ?_
      refine lv_istore_n (lv' := [(2, .int (iI (cm.length : Int))), (0, .ref cl), (1, .int (iI key))]) hx hb dCL_take_55 rfl hl (by decide) rfl (fun ls hl => ?_)
      refine lv_aload_n hx hb dCL_take_56 rfl (lv_at hl 1 rfl) ?_
      refine lv_iload_n hx hb dCL_take_57 rfl (lv_at hl 2 rfl) ?_
      refine lv_iload_n hx hb dCL_take_58 rfl (lv_at hl 0 rfl) ?_
      refine zI.back (va_runV (As := [.int (iI key), .int (iI (cm.length : Int))]) (rest := []) ⟨hx, hb, hml, hown, hts⟩ ((mCL_addCoset l D cI cG cl b lf rt fr fa ca ge (ks.length : Int) ff fc (cm.length : Int) (zu fg gs.length key) ((gs ++ [key]).length : Int) gl gr ks cm (gs ++ [key]) key cm.length hst2 (Nat.le_refl _) (fun j hj => (hci.1.2.2.1 _ (getD_mem hj)).1) hkv.1 ((hci.DI key).hfr hkv hkx) ((hci.DI key).hij hkv)) H.size) (cwV 2 hts (gT1 lkCL_55 (gT1 imCL_addCoset (gT1 seCL_addCoset (gT1 iniCL (gTW kcCL_addCoset))))) rfl rfl rfl (by decide +kernel) ⟨Nat.le_of_ble_eq_true rfl, Nat.le_of_ble_eq_true rfl⟩) ⟨zPre_blind, va_recv hK hP (ci := 2) (q0 := 0) rfl rfl, zPre.at (wc := [(cl, .inr (2, [.ref b, .ref fr, .ref ca, .int (iI (cm.length : Int)), .ref ge, .int (iI ((gs ++ [key]).length : Int))])), (b, .inr (1, [.ref lf, .ref rt])), (lf, .inl (cI, 9, .inl (zf gl))), (rt, .inl (cI, 9, .inl (zf gr))), (fr, .inr (5, [.ref fa, .int (iI (ks.length : Int))])), (fa, .inl (cI, 192, .inl (zf ff))), (ca, .inl (cI, 192, .inl (zf fc))), (ge, .inl (cI, 10, .inl (zf (zu fg gs.length key))))]) hK hP hD hS hA hX [0, 1, 2, 3, 4, 5, 6, 7] (by decide) rfl⟩ rfl rfl hl.1 rfl (lv_room (Nat.le_of_ble_eq_true rfl)) dCL_take_59 ⟨Nat.le_of_ble_eq_true rfl, Nat.le_of_ble_eq_true rfl⟩) (wr := []) hP hD hS hA [0, 1, 2, 3, 4, 5, 6, 7] [] rfl rfl (by decide) (by decide) (fun z_59 u_59 H locs q_59 hP hD hS hz_59 hk_59 => ?_)
      obtain ⟨fs2, ff2, fc2, cc2, fg2, gc2, gl2, gr2⟩ := u_59
      have q_59 : (z_59 = 1 ∧ ∃ ks2, CSt fs2 ff2 fc2 cc2 fg2 gc2 ks2 (cmI cm key cm.length) (gs ++ [key]) ∧ (∀ j, j < cm.length → timesK (cm.getD j (-1)) key ≠ -1) ∧ ∀ y, y ∈ ks2 ↔ y ∈ ks ∨ newAt cm key cm.length y) ∨ (z_59 = 0 ∧ (∃ ks2, rowOK 192 ff2 ks2 ∧ fs2 = (ks2.length : Int)) ∧ ((∃ j, j < cm.length ∧ timesK (cm.getD j (-1)) key = -1) ∨ 192 < cm.length + cm.length)) := q_59
      have hz59 : z_59 = 0 ∨ z_59 = 1 := by rcases q_59 with ⟨q, _⟩ | ⟨q, _⟩ <;> omega
      have hP : va_P D vwCl [(cl, .inr (2, [.ref b, .ref fr, .ref ca, .int (iI cc2), .ref ge, .int (iI gc2)])), (b, .inr (1, [.ref lf, .ref rt])), (lf, .inl (cI, 9, .inl (zf gl2))), (rt, .inl (cI, 9, .inl (zf gr2))), (fr, .inr (5, [.ref fa, .int (iI fs2)])), (fa, .inl (cI, 192, .inl (zf ff2))), (ca, .inl (cI, 192, .inl (zf fc2))), (ge, .inl (cI, 10, .inl (zf fg2)))] H := hP
      have hD : va_D A [(cl, .inr (2, [.ref b, .ref fr, .ref ca, .int (iI cc2), .ref ge, .int (iI gc2)])), (b, .inr (1, [.ref lf, .ref rt])), (lf, .inl (cI, 9, .inl (zf gl2))), (rt, .inl (cI, 9, .inl (zf gr2))), (fr, .inr (5, [.ref fa, .int (iI fs2)])), (fa, .inl (cI, 192, .inl (zf ff2))), (ca, .inl (cI, 192, .inl (zf fc2))), (ge, .inl (cI, 10, .inl (zf fg2)))] := hD
      refine lz_if_ne (tgt := 67) hx hb dCL_take_62 (by decide) (by omega) (fun c_62 => ?_) (fun c_62 => ?_)
      · obtain ⟨ks2, hC2, hb2, hk2⟩ : ∃ ks2, CSt fs2 ff2 fc2 cc2 fg2 gc2 ks2 (cmI cm key cm.length) (gs ++ [key]) ∧ (∀ j, j < cm.length → timesK (cm.getD j (-1)) key ≠ -1) ∧ ∀ y, y ∈ ks2 ↔ y ∈ ks ∨ newAt cm key cm.length y := by
          rcases q_59 with ⟨_, q⟩ | ⟨q, _⟩
          · exact q
          · omega
        clear q_59
        obtain ⟨hT2, hce⟩ := first_TI hci hkv hkx hb2 hk2
        rw [hce] at hC2
        obtain rfl := hC2.2.2.2.1
        obtain rfl := hC2.2.2.2.2.2.2.1
        refine lv_iload_n hx hb dCL_take_67 rfl (lv_at hl 0 rfl) ?_
        refine lv_istore_n (lv' := [(3, .int (iI (cm.length : Int))), (2, .int (iI (cm.length : Int))), (0, .ref cl), (1, .int (iI key))]) hx hb dCL_take_68 rfl hl (by decide) rfl (fun ls hl => ?_)
        have hl : lv_has ls 6 [(3, .int (iI ((cm.length * 1 : Nat) : Int))), (2, .int (iI (cm.length : Int))), (0, .ref cl), (1, .int (iI key))] := by rw [Nat.mul_one]; exact hl
        have lp69 : ∀ (n9 : Nat) (mm : Nat) (rs : List Int) (fs3 : Int) (ff3 fc3 fg3 gl3 gr3 : Nat → Int) (ks3 : List Int), (CSt fs3 ff3 fc3 ((cosets cm rs).length : Int) fg3 ((gs ++ [key]).length : Int) ks3 (cosets cm rs) (gs ++ [key])) → (TI cm (gs ++ [key]) ks3 rs mm key) → (193 - mm) < n9 → ∀ (H : Heap) (locs : List Loc), va_P D vwCl [(cl, .inr (2, [.ref b, .ref fr, .ref ca, .int (iI ((cosets cm rs).length : Int)), .ref ge, .int (iI ((gs ++ [key]).length : Int))])), (b, .inr (1, [.ref lf, .ref rt])), (lf, .inl (cI, 9, .inl (zf gl3))), (rt, .inl (cI, 9, .inl (zf gr3))), (fr, .inr (5, [.ref fa, .int (iI fs3)])), (fa, .inl (cI, 192, .inl (zf ff3))), (ca, .inl (cI, 192, .inl (zf fc3))), (ge, .inl (cI, 10, .inl (zf fg3)))] H → va_D A [(cl, .inr (2, [.ref b, .ref fr, .ref ca, .int (iI ((cosets cm rs).length : Int)), .ref ge, .int (iI ((gs ++ [key]).length : Int))])), (b, .inr (1, [.ref lf, .ref rt])), (lf, .inl (cI, 9, .inl (zf gl3))), (rt, .inl (cI, 9, .inl (zf gr3))), (fr, .inr (5, [.ref fa, .int (iI fs3)])), (fa, .inl (cI, 192, .inl (zf ff3))), (ca, .inl (cI, 192, .inl (zf fc3))), (ge, .inl (cI, 10, .inl (zf fg3)))] → va_S A s.heap H locs → ∀ (ls : Array Slot), lv_has ls 6 [(0, .ref cl), (1, .int (iI key)), (2, .int (iI (cm.length : Int))), (3, .int (iI ((cm.length * mm : Nat) : Int)))] → W p l e (headSpec wCL_take rmCL_take).room s m args below meth c H locs 0 0 Q (F0 m 69 ls []) := by
          intro n9
          induction n9 with
          | zero => intro mm rs fs3 ff3 fc3 fg3 gl3 gr3 ks3 hC3 hT3 hm; exact absurd hm (Nat.not_lt_zero _)
          | succ n9 ih69 =>
            intro mm rs fs3 ff3 fc3 fg3 gl3 gr3 ks3 hC3 hT3 hm69 H locs hP hD hS ls hl
            have hcl3 := hC3.2.2.2.2.1
            have hmr2 := hT3.2.2.1
            have hml3 : cm.length * mm ≤ (cosets cm rs).length := by rw [cosets_len]; exact Nat.mul_le_mul_left _ hmr2
            have hmm9 : mm ≤ cm.length * mm := Nat.le_mul_of_pos_left _ hcp
            refine lv_iload_n hx hb dCL_take_69 rfl (lv_at hl 3 rfl) ?_
            refine lv_aload_n hx hb dCL_take_70 rfl (lv_at hl 0 rfl) ?_
            refine va_get (D := D) (ci := 2) (v := .int (iI ((cosets cm rs).length : Int))) (C := nCL) (T := fCL) (N := 6) hx hb hts iwCL hown hK hP 0 rfl rfl 3 (by decide) (hts _ (List.mem_cons_of_mem _ lkCL_24)) (fun _ h9 => h9) rfl dCL_take_71 ?_
            refine lz_icmp_ge (tgt := 160) hx hb dCL_take_74 (by decide) (by omega) (by omega) (fun c_74 => ?_) (fun c_74 => ?_)
            · have hmr : rs.length ≤ mm := by
                rcases Nat.lt_or_ge mm rs.length with q | q
                · have := Nat.mul_lt_mul_of_pos_left q hcp
                  rw [cosets_len] at c_74
                  omega
                · exact q
              refine lv_iconst (v := iI (1)) hx hb dCL_take_160 rfl ?_
              exact hret H locs 0 0 161 ls 1 (fs3, ff3, fc3, ((cosets cm rs).length : Int), fg3, ((gs ++ [key]).length : Int), gl3, gr3) (Or.inl ⟨rfl, ks3, cosets cm rs, gs ++ [key], hC3, hT3.done hci hkv hmr hC3.1.2.2.2.1 hC3.1.1 hC3.2.2.2.2.2.2.2.2, hT3.2.2.2.2.1, Or.inr rfl⟩) (hP.sub [0, 1, 2, 3, 4, 5, 6, 7] rfl) (hD.sub [0, 1, 2, 3, 4, 5, 6, 7] (by decide) rfl) hS (Nat.zero_le _) (Nat.zero_le _) dCL_take_161
            · have hmr : mm < rs.length := by
                rcases Nat.lt_or_ge mm rs.length with q | q
                · exact q
                · have := Nat.mul_le_mul_left cm.length q
                  rw [cosets_len] at c_74
                  omega
              have hcl3 := hC3.2.2.2.2.1
              refine lv_iload_n hx hb dCL_take_77 rfl (lv_at hl 3 rfl) ?_
              refine lv_sipush (v := iI (192)) hx hb dCL_take_78 (by decide) ?_
              refine lz_icmp_ge (tgt := 160) hx hb dCL_take_81 (by decide) (by omega) (by omega) (fun c_81 => ?_) (fun c_81 => ?_)
              · exact absurd c_81 (by omega)
              · refine lv_iconst (v := iI (0)) hx hb dCL_take_84 rfl ?_
                refine lv_istore (lv' := [(4, .int (iI 0)), (0, .ref cl), (1, .int (iI key)), (2, .int (iI (cm.length : Int))), (3, .int (iI ((cm.length * mm : Nat) : Int)))]) hx hb dCL_take_85 hl (by decide) rfl (fun ls hl => ?_)
                have lp87 : ∀ (n9 : Nat) (gi : Nat) (rs : List Int) (fs4 : Int) (ff4 fc4 fg4 gl4 gr4 : Nat → Int) (ks4 : List Int), (CSt fs4 ff4 fc4 ((cosets cm rs).length : Int) fg4 ((gs ++ [key]).length : Int) ks4 (cosets cm rs) (gs ++ [key])) → (TJ cm (gs ++ [key]) ks4 rs mm key gi) → ((gs ++ [key]).length - gi) < n9 → ∀ (H : Heap) (locs : List Loc), va_P D vwCl [(cl, .inr (2, [.ref b, .ref fr, .ref ca, .int (iI ((cosets cm rs).length : Int)), .ref ge, .int (iI ((gs ++ [key]).length : Int))])), (b, .inr (1, [.ref lf, .ref rt])), (lf, .inl (cI, 9, .inl (zf gl4))), (rt, .inl (cI, 9, .inl (zf gr4))), (fr, .inr (5, [.ref fa, .int (iI fs4)])), (fa, .inl (cI, 192, .inl (zf ff4))), (ca, .inl (cI, 192, .inl (zf fc4))), (ge, .inl (cI, 10, .inl (zf fg4)))] H → va_D A [(cl, .inr (2, [.ref b, .ref fr, .ref ca, .int (iI ((cosets cm rs).length : Int)), .ref ge, .int (iI ((gs ++ [key]).length : Int))])), (b, .inr (1, [.ref lf, .ref rt])), (lf, .inl (cI, 9, .inl (zf gl4))), (rt, .inl (cI, 9, .inl (zf gr4))), (fr, .inr (5, [.ref fa, .int (iI fs4)])), (fa, .inl (cI, 192, .inl (zf ff4))), (ca, .inl (cI, 192, .inl (zf fc4))), (ge, .inl (cI, 10, .inl (zf fg4)))] → va_S A s.heap H locs → ∀ (ls : Array Slot), lv_has ls 6 [(0, .ref cl), (1, .int (iI key)), (2, .int (iI (cm.length : Int))), (3, .int (iI ((cm.length * mm : Nat) : Int))), (4, .int (iI (gi : Int)))] → W p l e (headSpec wCL_take rmCL_take).room s m args below meth c H locs 0 0 Q (F0 m 87 ls []) := by
                  intro n9
                  induction n9 with
                  | zero => intro gi rs fs4 ff4 fc4 fg4 gl4 gr4 ks4 hC4 hT4 hm; exact absurd hm (Nat.not_lt_zero _)
                  | succ n9 ih87 =>
                    intro gi rs fs4 ff4 fc4 fg4 gl4 gr4 ks4 hC4 hT4 hm87 H locs hP hD hS ls hl
                    have hgi9 := hT4.2.2.1
                    refine lv_iload hx hb dCL_take_87 (lv_at hl 4 rfl) ?_
                    refine lv_aload_n hx hb dCL_take_89 rfl (lv_at hl 0 rfl) ?_
                    refine va_get (D := D) (ci := 2) (v := .int (iI ((gs ++ [key]).length : Int))) (C := nCL) (T := fCL) (N := 6) hx hb hts iwCL hown hK hP 0 rfl rfl 5 (by decide) (hts _ (List.mem_cons_of_mem _ lkCL_31)) (fun _ h9 => h9) rfl dCL_take_90 ?_
                    refine lz_icmp_ge (tgt := 153) hx hb dCL_take_93 (by decide) (by omega) (by omega) (fun c_93 => ?_) (fun c_93 => ?_)
                    · refine lv_iload_n hx hb dCL_take_153 rfl (lv_at hl 3 rfl) ?_
                      refine lv_iload_n hx hb dCL_take_154 rfl (lv_at hl 2 rfl) ?_
                      refine lz_iadd hx hb dCL_take_155 ?_
                      refine lv_istore_n (lv' := [(3, .int (iI (((cm.length * mm : Nat) : Int) + (cm.length : Int)))), (0, .ref cl), (1, .int (iI key)), (2, .int (iI (cm.length : Int))), (4, .int (iI (gi : Int)))]) hx hb dCL_take_156 rfl hl (by decide) rfl (fun ls hl => ?_)
                      refine lv_goto (tgt := 69) hx hb dCL_take_157 (by decide) ?_
                      rw [show ((cm.length * mm : Nat) : Int) + (cm.length : Int) = ((cm.length * (mm + 1) : Nat) : Int) from by rw [Nat.mul_succ]; omega] at hl
                      exact ih69 (mm + 1) rs fs4 ff4 fc4 fg4 gl4 gr4 ks4 hC4 (hT4.done (by omega)) (by omega) _ _ (hP.sub [0, 1, 2, 3, 4, 5, 6, 7] rfl) (hD.sub [0, 1, 2, 3, 4, 5, 6, 7] (by decide) rfl) hS _ (lv_sub hl [1, 2, 3, 0] rfl)
                    · have hgi : gi < (gs ++ [key]).length := by omega
                      have hcl4 := hC4.2.2.2.2.1
                      have hm4 := hT4.2.1
                      have hix : cm.length * mm < (cosets cm rs).length := by rw [cosets_len]; exact Nat.mul_lt_mul_of_pos_left hm4 hcp
                      have hgk := (hgv _ (getD_mem hgi)).1
                      have hrk := (hT4.1.1.2.2.2.1 _ (getD_mem hm4)).1
                      refine lv_aload_n hx hb dCL_take_96 rfl (lv_at hl 0 rfl) ?_
                      refine va_get (D := D) (ci := 2) (v := .ref b) (C := nCL) (T := fCL) (N := 6) hx hb hts iwCL hown hK hP 0 rfl rfl 0 (by decide) (hts _ (List.mem_cons_of_mem _ lkCL_34)) (fun _ h9 => h9) rfl dCL_take_97 ?_
                      refine lv_aload_n hx hb dCL_take_100 rfl (lv_at hl 0 rfl) ?_
                      refine va_get (D := D) (ci := 2) (v := .ref ca) (C := nCL) (T := fCL) (N := 6) hx hb hts iwCL hown hK hP 0 rfl rfl 2 (by decide) (hts _ (List.mem_cons_of_mem _ lkCL_20)) (fun _ h9 => h9) rfl dCL_take_101 ?_
                      refine lv_iload_n hx hb dCL_take_104 rfl (lv_at hl 3 rfl) ?_
                      refine lz_iald hx hb hK hP 6 0 rfl rfl (z := ((cm.length * mm : Nat) : Int)) (by omega) dCL_take_105 ?_
                      refine lz_as (x := fc4 (((cm.length * mm : Nat) : Int)).toNat) (y := rs.getD mm (-1)) (by rw [show ((cm.length * mm : Nat) : Int).toNat = cm.length * mm by omega, hC4.2.2.1 _ hix, cosets_at cm hcp rs mm hm4, hci.2.1, u0_l hrk]) ?_
                      refine lv_aload_n hx hb dCL_take_106 rfl (lv_at hl 0 rfl) ?_
                      refine lv_iload hx hb dCL_take_107 (lv_at hl 4 rfl) ?_
                      refine zRI.back ((va_runV (As := [.int (iI (gi : Int))]) (rest := [.int (iI (rs.getD mm (-1))), .ref b]) ⟨hx, hb, hml, hown, hts⟩ (mCL_generator l D cI cG cl b lf rt fr fa ca ge ((cosets cm rs).length : Int) fg4 (gs ++ [key]) (gi : Int) hC4.2.2.2.2.2.1 (by omega) (by omega)) (cwV 1 hts (gT1 lkCL_59 (gT1 imCL_generator (gT1 seCL_generator (gT1 iniCL (gTW kcCL_generator))))) rfl rfl rfl (by decide +kernel) ⟨Nat.le_of_ble_eq_true rfl, Nat.le_of_ble_eq_true rfl⟩) ⟨zRd_blind, va_recv hK hP (ci := 2) (q0 := 0) rfl rfl, zRd.at (wc := [(cl, .inr (2, [.ref b, .ref fr, .ref ca, .int (iI ((cosets cm rs).length : Int)), .ref ge, .int (iI ((gs ++ [key]).length : Int))])), (ge, .inl (cI, 10, .inl (zf fg4)))]) hK (hP.sub (ws' := [(cl, .inr (2, [.ref b, .ref fr, .ref ca, .int (iI ((cosets cm rs).length : Int)), .ref ge, .int (iI ((gs ++ [key]).length : Int))])), (ge, .inl (cI, 10, .inl (zf fg4)))]) [0, 7] rfl) (stF.now hX hS)⟩ rfl rfl hl.1 rfl (lv_room (Nat.le_of_ble_eq_true rfl)) dCL_take_109 ⟨Nat.le_of_ble_eq_true rfl, Nat.le_of_ble_eq_true rfl⟩).run) (fun z_109 q_109 => ?_)
                      obtain rfl : z_109 = (gs ++ [key]).getD gi (-1) := by have q_109 : z_109 = lat (gs ++ [key]) (gi : Int) := q_109; rw [q_109]; exact (lat_in (by omega) (by omega)).1
                      refine zI.back (va_runV (As := [.int (iI (rs.getD mm (-1))), .int (iI ((gs ++ [key]).getD gi (-1)))]) (rest := []) ⟨hx, hb, hml, hown, hts⟩ ((mBE_times l D cI cG b lf rt gl4 gr4 (rs.getD mm (-1)) ((gs ++ [key]).getD gi (-1)) hrk hgk) H.size) (cwV 2 hts (gT1 lkCL_63 (gT1 imBE_times (gT1 seBE_times (gT1 iniBE (gTW kcBE_times))))) rfl rfl rfl (by decide +kernel) ⟨Nat.le_of_ble_eq_true rfl, Nat.le_of_ble_eq_true rfl⟩) ⟨zPre_blind, va_recv hK hP (ci := 1) (q0 := 1) rfl rfl, zPre.at (wc := [(b, .inr (1, [.ref lf, .ref rt])), (lf, .inl (cI, 9, .inl (zf gl4))), (rt, .inl (cI, 9, .inl (zf gr4)))]) hK hP hD hS hA hX [1, 2, 3] (by decide) rfl⟩ rfl rfl hl.1 rfl (lv_room (Nat.le_of_ble_eq_true rfl)) dCL_take_112 ⟨Nat.le_of_ble_eq_true rfl, Nat.le_of_ble_eq_true rfl⟩) (wr := [(cl, .inr (2, [.ref b, .ref fr, .ref ca, .int (iI ((cosets cm rs).length : Int)), .ref ge, .int (iI ((gs ++ [key]).length : Int))])), (fr, .inr (5, [.ref fa, .int (iI fs4)])), (fa, .inl (cI, 192, .inl (zf ff4))), (ca, .inl (cI, 192, .inl (zf fc4))), (ge, .inl (cI, 10, .inl (zf fg4)))]) hP hD hS hA [1, 2, 3] [0, 4, 5, 6, 7] rfl rfl (by decide) (by decide) (fun z_112 u_112 H locs q_112 hP hD hS hz_112 hk_112 => ?_)
                      obtain rfl : z_112 = timesK (rs.getD mm (-1)) ((gs ++ [key]).getD gi (-1)) := q_112
                      have hP : va_P D vwCl [(cl, .inr (2, [.ref b, .ref fr, .ref ca, .int (iI ((cosets cm rs).length : Int)), .ref ge, .int (iI ((gs ++ [key]).length : Int))])), (fr, .inr (5, [.ref fa, .int (iI fs4)])), (fa, .inl (cI, 192, .inl (zf ff4))), (ca, .inl (cI, 192, .inl (zf fc4))), (ge, .inl (cI, 10, .inl (zf fg4))), (b, .inr (1, [.ref lf, .ref rt])), (lf, .inl (cI, 9, .inl (zf (rd (rs.getD mm (-1)) gl4)))), (rt, .inl (cI, 9, .inl (zf (rd ((gs ++ [key]).getD gi (-1)) gr4))))] H := hP
                      have hD : va_D A [(cl, .inr (2, [.ref b, .ref fr, .ref ca, .int (iI ((cosets cm rs).length : Int)), .ref ge, .int (iI ((gs ++ [key]).length : Int))])), (fr, .inr (5, [.ref fa, .int (iI fs4)])), (fa, .inl (cI, 192, .inl (zf ff4))), (ca, .inl (cI, 192, .inl (zf fc4))), (ge, .inl (cI, 10, .inl (zf fg4))), (b, .inr (1, [.ref lf, .ref rt])), (lf, .inl (cI, 9, .inl (zf (rd (rs.getD mm (-1)) gl4)))), (rt, .inl (cI, 9, .inl (zf (rd ((gs ++ [key]).getD gi (-1)) gr4))))] := hD
                      refine lv_istore (lv' := [(5, .int (iI (timesK (rs.getD mm (-1)) ((gs ++ [key]).getD gi (-1))))), (0, .ref cl), (1, .int (iI key)), (2, .int (iI (cm.length : Int))), (3, .int (iI ((cm.length * mm : Nat) : Int))), (4, .int (iI (gi : Int)))]) hx hb dCL_take_115 hl (by decide) rfl (fun ls hl => ?_)
                      refine lv_iload hx hb dCL_take_117 (lv_at hl 0 rfl) ?_
                      refine lv_iconst (v := iI (-1)) hx hb dCL_take_119 rfl ?_
                      refine lz_icmp_eq (tgt := 145) hx hb dCL_take_120 (by decide) (by have := times_bd (rs.getD mm (-1)) ((gs ++ [key]).getD gi (-1)); omega) (by omega) (fun c_120 => ?_) (fun c_120 => ?_)
                      · have hbad := next_none hT4 hgi hgv c_120
                        refine lv_iconst (v := iI (0)) hx hb dCL_take_145 rfl ?_
                        exact hret H locs 0 0 146 ls 0 (fs4, ff4, fc4, ((cosets cm rs).length : Int), fg4, ((gs ++ [key]).length : Int), rd (rs.getD mm (-1)) gl4, rd ((gs ++ [key]).getD gi (-1)) gr4) (Or.inr ⟨rfl, ⟨ks4, hC4.1, hC4.2.1⟩, hbad⟩) (hP.sub [0, 5, 6, 7, 1, 2, 3, 4] rfl) (hD.sub [0, 5, 6, 7, 1, 2, 3, 4] (by decide) rfl) hS (Nat.zero_le _) (Nat.zero_le _) dCL_take_146
                      · have hnx := hT4.1.1.next (getD_mem hm4) (getD_mem hgi) (hgv _ (getD_mem hgi)) c_120
                        obtain rfl : fs4 = (ks4.length : Int) := hC4.2.1
                        refine lv_aload_n hx hb dCL_take_123 rfl (lv_at hl 1 rfl) ?_
                        refine va_get (D := D) (ci := 2) (v := .ref fr) (C := nCL) (T := fCL) (N := 6) hx hb hts iwCL hown hK hP 0 rfl rfl 1 (by decide) (hts _ (List.mem_cons_of_mem _ lkCL_14)) (fun _ h9 => h9) rfl dCL_take_124 ?_
                        refine lv_iload hx hb dCL_take_127 (lv_at hl 0 rfl) ?_
                        refine zRI.back ((va_runV (As := [.int (iI (timesK (rs.getD mm (-1)) ((gs ++ [key]).getD gi (-1))))]) (rest := []) ⟨hx, hb, hml, hown, hts⟩ (mRO_has l D cI cG fr fa 192 ff4 ks4 (timesK (rs.getD mm (-1)) ((gs ++ [key]).getD gi (-1))) hC4.1 (by have := times_bd (rs.getD mm (-1)) ((gs ++ [key]).getD gi (-1)); omega)) (cwV 1 hts (gT1 lkCL_46 (gT1 imRO_has (gT1 seRO_has (gT1 iniRO (gTW kcRO_has))))) rfl rfl rfl (by decide +kernel) ⟨Nat.le_of_ble_eq_true rfl, Nat.le_of_ble_eq_true rfl⟩) ⟨zRd_blind, va_recv hK hP (ci := 5) (q0 := 1) rfl rfl, zRd.at (wc := [(fr, .inr (5, [.ref fa, .int (iI (ks4.length : Int))])), (fa, .inl (cI, 192, .inl (zf ff4)))]) hK (hP.sub (ws' := [(fr, .inr (5, [.ref fa, .int (iI (ks4.length : Int))])), (fa, .inl (cI, 192, .inl (zf ff4)))]) [1, 2] rfl) (stF.now hX hS)⟩ rfl rfl hl.1 rfl (lv_room (Nat.le_of_ble_eq_true rfl)) dCL_take_129 ⟨Nat.le_of_ble_eq_true rfl, Nat.le_of_ble_eq_true rfl⟩).run) (fun z_129 q_129 => ?_)
                        have q_129 : (z_129 = 1 ∧ timesK (rs.getD mm (-1)) ((gs ++ [key]).getD gi (-1)) ∈ ks4) ∨ (z_129 = 0 ∧ timesK (rs.getD mm (-1)) ((gs ++ [key]).getD gi (-1)) ∉ ks4) := q_129
                        refine lz_if_ne (tgt := 147) hx hb dCL_take_132 (by decide) (by rcases q_129 with ⟨q, _⟩ | ⟨q, _⟩ <;> omega) (fun c_132 => ?_) (fun c_132 => ?_)
                        · have hin4 : timesK (rs.getD mm (-1)) ((gs ++ [key]).getD gi (-1)) ∈ ks4 := by rcases q_129 with ⟨_, q⟩ | ⟨q, _⟩ <;> first | exact q | omega
                          refine lz_iinc (lv' := [(4, .int (iI ((gi : Int) + 1))), (5, .int (iI (timesK (rs.getD mm (-1)) ((gs ++ [key]).getD gi (-1))))), (0, .ref cl), (1, .int (iI key)), (2, .int (iI (cm.length : Int))), (3, .int (iI ((cm.length * mm : Nat) : Int)))]) hx hb dCL_take_147 hl (k := 5) rfl (by decide) rfl (fun ls hl => ?_)
                          refine lv_goto (tgt := 87) hx hb dCL_take_150 (by decide) ?_
                          exact ih87 (gi + 1) rs (ks4.length : Int) ff4 fc4 fg4 (rd (rs.getD mm (-1)) gl4) (rd ((gs ++ [key]).getD gi (-1)) gr4) ks4 hC4 (hT4.has (by omega) hin4) (by omega) _ _ (hP.sub [0, 5, 6, 7, 1, 2, 3, 4] rfl) (hD.sub [0, 5, 6, 7, 1, 2, 3, 4] (by decide) rfl) hS _ (lv_sub hl [2, 3, 4, 5, 0] rfl)
                        · have hin4 : timesK (rs.getD mm (-1)) ((gs ++ [key]).getD gi (-1)) ∉ ks4 := by rcases q_129 with ⟨q, _⟩ | ⟨_, q⟩ <;> first | exact q | omega
                          refine lv_aload_n hx hb dCL_take_135 rfl (lv_at hl 1 rfl) ?_
                          refine lv_iload hx hb dCL_take_136 (lv_at hl 0 rfl) ?_
                          refine lv_iload_n hx hb dCL_take_138 rfl (lv_at hl 3 rfl) ?_
                          refine zI.back (va_runV (As := [.int (iI (timesK (rs.getD mm (-1)) ((gs ++ [key]).getD gi (-1)))), .int (iI (cm.length : Int))]) (rest := []) ⟨hx, hb, hml, hown, hts⟩ ((mCL_addCoset l D cI cG cl b lf rt fr fa ca ge (ks4.length : Int) ff4 fc4 ((cosets cm rs).length : Int) fg4 ((gs ++ [key]).length : Int) (rd (rs.getD mm (-1)) gl4) (rd ((gs ++ [key]).getD gi (-1)) gr4) ks4 (cosets cm rs) (gs ++ [key]) (timesK (rs.getD mm (-1)) ((gs ++ [key]).getD gi (-1))) cm.length hC4 hT4.1.1.clen hT4.1.1.ckv hnx.1.1 (hT4.1.1.cfr hnx.1 hin4) (hT4.1.1.cij hnx.1)) H.size) (cwV 2 hts (gT1 lkCL_55 (gT1 imCL_addCoset (gT1 seCL_addCoset (gT1 iniCL (gTW kcCL_addCoset))))) rfl rfl rfl (by decide +kernel) ⟨Nat.le_of_ble_eq_true rfl, Nat.le_of_ble_eq_true rfl⟩) ⟨zPre_blind, va_recv hK hP (ci := 2) (q0 := 0) rfl rfl, zPre.at (wc := [(cl, .inr (2, [.ref b, .ref fr, .ref ca, .int (iI ((cosets cm rs).length : Int)), .ref ge, .int (iI ((gs ++ [key]).length : Int))])), (b, .inr (1, [.ref lf, .ref rt])), (lf, .inl (cI, 9, .inl (zf (rd (rs.getD mm (-1)) gl4)))), (rt, .inl (cI, 9, .inl (zf (rd ((gs ++ [key]).getD gi (-1)) gr4)))), (fr, .inr (5, [.ref fa, .int (iI (ks4.length : Int))])), (fa, .inl (cI, 192, .inl (zf ff4))), (ca, .inl (cI, 192, .inl (zf fc4))), (ge, .inl (cI, 10, .inl (zf fg4)))]) hK hP hD hS hA hX [0, 5, 6, 7, 1, 2, 3, 4] (by decide) rfl⟩ rfl rfl hl.1 rfl (lv_room (Nat.le_of_ble_eq_true rfl)) dCL_take_139 ⟨Nat.le_of_ble_eq_true rfl, Nat.le_of_ble_eq_true rfl⟩) (wr := []) hP hD hS hA [0, 5, 6, 7, 1, 2, 3, 4] [] rfl rfl (by decide) (by decide) (fun z_139 u_139 H locs q_139 hP hD hS hz_139 hk_139 => ?_)
                          obtain ⟨fs5, ff5, fc5, cc5, fg5, gc5, gl5, gr5⟩ := u_139
                          have q_139 : (z_139 = 1 ∧ ∃ ks5, CSt fs5 ff5 fc5 cc5 fg5 gc5 ks5 (cmI (cosets cm rs) (timesK (rs.getD mm (-1)) ((gs ++ [key]).getD gi (-1))) cm.length) (gs ++ [key]) ∧ (∀ j, j < cm.length → timesK ((cosets cm rs).getD j (-1)) (timesK (rs.getD mm (-1)) ((gs ++ [key]).getD gi (-1))) ≠ -1) ∧ ∀ y, y ∈ ks5 ↔ y ∈ ks4 ∨ newAt (cosets cm rs) (timesK (rs.getD mm (-1)) ((gs ++ [key]).getD gi (-1))) cm.length y) ∨ (z_139 = 0 ∧ (∃ ks2, rowOK 192 ff5 ks2 ∧ fs5 = (ks2.length : Int)) ∧ ((∃ j, j < cm.length ∧ timesK ((cosets cm rs).getD j (-1)) (timesK (rs.getD mm (-1)) ((gs ++ [key]).getD gi (-1))) = -1) ∨ 192 < (cosets cm rs).length + cm.length)) := q_139
                          have hz139 : z_139 = 0 ∨ z_139 = 1 := by rcases q_139 with ⟨q, _⟩ | ⟨q, _⟩ <;> omega
                          have hP : va_P D vwCl [(cl, .inr (2, [.ref b, .ref fr, .ref ca, .int (iI cc5), .ref ge, .int (iI gc5)])), (b, .inr (1, [.ref lf, .ref rt])), (lf, .inl (cI, 9, .inl (zf gl5))), (rt, .inl (cI, 9, .inl (zf gr5))), (fr, .inr (5, [.ref fa, .int (iI fs5)])), (fa, .inl (cI, 192, .inl (zf ff5))), (ca, .inl (cI, 192, .inl (zf fc5))), (ge, .inl (cI, 10, .inl (zf fg5)))] H := hP
                          have hD : va_D A [(cl, .inr (2, [.ref b, .ref fr, .ref ca, .int (iI cc5), .ref ge, .int (iI gc5)])), (b, .inr (1, [.ref lf, .ref rt])), (lf, .inl (cI, 9, .inl (zf gl5))), (rt, .inl (cI, 9, .inl (zf gr5))), (fr, .inr (5, [.ref fa, .int (iI fs5)])), (fa, .inl (cI, 192, .inl (zf ff5))), (ca, .inl (cI, 192, .inl (zf fc5))), (ge, .inl (cI, 10, .inl (zf fg5)))] := hD
                          refine lz_if_ne (tgt := 147) hx hb dCL_take_142 (by decide) (by omega) (fun c_142 => ?_) (fun c_142 => ?_)
                          · obtain ⟨ks5, hC5, hb5, hk5⟩ : ∃ ks5, CSt fs5 ff5 fc5 cc5 fg5 gc5 ks5 (cmI (cosets cm rs) (timesK (rs.getD mm (-1)) ((gs ++ [key]).getD gi (-1))) cm.length) (gs ++ [key]) ∧ (∀ j, j < cm.length → timesK ((cosets cm rs).getD j (-1)) (timesK (rs.getD mm (-1)) ((gs ++ [key]).getD gi (-1))) ≠ -1) ∧ ∀ y, y ∈ ks5 ↔ y ∈ ks4 ∨ newAt (cosets cm rs) (timesK (rs.getD mm (-1)) ((gs ++ [key]).getD gi (-1))) cm.length y := by
                              rcases q_139 with ⟨_, q⟩ | ⟨q, _⟩
                              · exact q
                              · omega
                            clear q_139
                            rw [cos_cmI cm rs _ cm.length hT4.1.1.front rfl hT4.1.1.clen] at hC5
                            obtain rfl := hC5.2.2.2.1
                            obtain rfl := hC5.2.2.2.2.2.2.1
                            have hT5 := hT4.add hgi hgv c_120 hin4 (fun j hj => by rw [← hT4.1.1.front j hj]; exact hb5 j hj) (fun y => by rw [hk5 y, newAt_front hT4.1.1])
                            refine lz_iinc (lv' := [(4, .int (iI ((gi : Int) + 1))), (5, .int (iI (timesK (rs.getD mm (-1)) ((gs ++ [key]).getD gi (-1))))), (0, .ref cl), (1, .int (iI key)), (2, .int (iI (cm.length : Int))), (3, .int (iI ((cm.length * mm : Nat) : Int)))]) hx hb dCL_take_147 hl (k := 5) rfl (by decide) rfl (fun ls hl => ?_)
                            refine lv_goto (tgt := 87) hx hb dCL_take_150 (by decide) ?_
                            exact ih87 (gi + 1) (rs ++ [timesK (rs.getD mm (-1)) ((gs ++ [key]).getD gi (-1))]) fs5 ff5 fc5 fg5 gl5 gr5 ks5 hC5 hT5 (by omega) _ _ (hP.sub [0, 1, 2, 3, 4, 5, 6, 7] rfl) (hD.sub [0, 1, 2, 3, 4, 5, 6, 7] (by decide) rfl) hS _ (lv_sub hl [2, 3, 4, 5, 0] rfl)
                          · obtain ⟨hr5, hf5⟩ : (∃ ks2, rowOK 192 ff5 ks2 ∧ fs5 = (ks2.length : Int)) ∧ ((∃ j, j < cm.length ∧ timesK ((cosets cm rs).getD j (-1)) (timesK (rs.getD mm (-1)) ((gs ++ [key]).getD gi (-1))) = -1) ∨ 192 < (cosets cm rs).length + cm.length) := by
                              rcases q_139 with ⟨q, _⟩ | ⟨_, q⟩
                              · omega
                              · exact q
                            have hbad := next_bad hT4 hgi hgv hin4 hf5
                            refine lv_iconst (v := iI (0)) hx hb dCL_take_145 rfl ?_
                            exact hret H locs 0 0 146 ls 0 (fs5, ff5, fc5, cc5, fg5, gc5, gl5, gr5) (Or.inr ⟨rfl, hr5, hbad⟩) (hP.sub [0, 1, 2, 3, 4, 5, 6, 7] rfl) (hD.sub [0, 1, 2, 3, 4, 5, 6, 7] (by decide) rfl) hS (Nat.zero_le _) (Nat.zero_le _) dCL_take_146
                exact lp87 _ 0 rs fs3 ff3 fc3 fg3 gl3 gr3 ks3 hC3 ⟨hT3, hmr, Nat.zero_le _, fun t ht => absurd ht (Nat.not_lt_zero _)⟩ (Nat.lt_succ_self _) _ _ (hP.sub [0, 1, 2, 3, 4, 5, 6, 7] rfl) (hD.sub [0, 1, 2, 3, 4, 5, 6, 7] (by decide) rfl) hS _ (lv_sub hl [1, 2, 3, 4, 0] rfl)
        exact lp69 _ 1 ([u0, key]) fs2 ff2 fc2 fg2 gl2 gr2 ks2 hC2 hT2 (Nat.lt_succ_self _) _ _ (hP.sub [0, 1, 2, 3, 4, 5, 6, 7] rfl) (hD.sub [0, 1, 2, 3, 4, 5, 6, 7] (by decide) rfl) hS _ (lv_sub hl [2, 3, 1, 0] rfl)
      · obtain ⟨hr2, hf2⟩ : (∃ ks2, rowOK 192 ff2 ks2 ∧ fs2 = (ks2.length : Int)) ∧ ((∃ j, j < cm.length ∧ timesK (cm.getD j (-1)) key = -1) ∨ 192 < cm.length + cm.length) := by
          rcases q_59 with ⟨q, _⟩ | ⟨_, q⟩
          · omega
          · exact q
        refine lv_iconst (v := iI (0)) hx hb dCL_take_65 rfl ?_
        exact hret H locs 0 0 66 ls 0 (fs2, ff2, fc2, cc2, fg2, gc2, gl2, gr2) (Or.inr ⟨rfl, hr2, first_bad hci hkv hkx hf2⟩) (hP.sub [0, 1, 2, 3, 4, 5, 6, 7] rfl) (hD.sub [0, 1, 2, 3, 4, 5, 6, 7] (by decide) rfl) hS (Nat.zero_le _) (Nat.zero_le _) dCL_take_66
    · exact absurd c_22 (by omega)
  · have hkx : key ∈ ks := by rcases q_5 with ⟨_, q⟩ | ⟨q, _⟩ <;> first | exact q | omega
    refine lv_iconst (v := iI (1)) hx hb dCL_take_11 rfl ?_
    exact hret H locs 0 0 12 ls 1 ((ks.length : Int), ff, fc, (cm.length : Int), fg, (gs.length : Int), gl, gr) (Or.inl ⟨rfl, ks, cm, gs, hst, hci, hkx, Or.inl rfl⟩) (hP.sub [0, 1, 2, 3, 4, 5, 6, 7] rfl) (hD.sub [0, 1, 2, 3, 4, 5, 6, 7] (by decide) rfl) hS (Nat.zero_le _) (Nat.zero_le _) dCL_take_12
