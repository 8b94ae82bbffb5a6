/-! GroupHallsModel: isMember, product, find, within, both, keepers, orbit: written by wip/whole -/
def rmMO_isMember : Room := { frames := 1, cells := 0, slots := 0, locals := 21 }
set_option maxHeartbeats 4000000 in
set_option maxRecDepth 100000 in
theorem mMO_isMember (l : Launch) (D : va_G) (cI cJ cZ : ClassId) (q : MoA) (cn gn ln : Int) (fm fz : Nat → Int) (kss : List (List Int)) (x k : Int) (hgn : gn = (kss.length : Int)) (hM : MEM fm fz kss) (hzx : -2147483648 ≤ x ∧ x < 2147483648) (hzk : -2147483648 ≤ k ∧ k < 2147483648) : zRI l yMO_isMember wMO_isMember rmMO_isMember D vwCl (zM cI cJ cZ) [.ref q.mo, .int (iI x), .int (iI k)] [(moC q cn gn ln), (q.xm, .inl (cI, 7680, .inl (zf fm))), (q.xz, .inl (cI, 40, .inl (zf fz)))] (fun z => (z = 1 ∧ isMem kss x k) ∨ (z = 0 ∧ ¬ isMem kss x k)) := by
  refine zRI.of (cc := cMO_isMember) (maxL := 3) (rt := .boolean) (by decide) rfl (Nat.le_of_ble_eq_true rfl) (fun z h => by rcases h with ⟨rfl, _⟩ | ⟨rfl, _⟩ <;> decide) ?_
  intro p e s m args below meth c ls Q hx hb hml hown hts hK hP hX hl hret
  have hS0 : va_S (fun _ => False) s.heap s.heap [] := va_S.rf
  have hl : lv_has ls 3 [(0, .ref q.mo), (1, .int (iI x)), (2, .int (iI k))] := hl
  subst hgn
  have hMl := hM.1
  refine lv_aload_n hx hb dMO_isMember_0 rfl (lv_at hl 0 rfl) ?_
  refine lv_iload_n hx hb dMO_isMember_1 rfl (lv_at hl 1 rfl) ?_
  refine zRI.back ((va_runV (As := [.int (iI x)]) (rest := []) ⟨hx, hb, hml, hown, hts⟩ (mMO_isGroup l D cI cJ cZ q cn (kss.length : Int) ln x hzx (by omega)) (cwV 1 hts (gT1 lkMO_151 (gT1 imMO_isGroup (gT1 seMO_isGroup (gT1 iniMO (gTW kcMO_isGroup))))) rfl rfl rfl (by decide +kernel) ⟨Nat.le_of_ble_eq_true rfl, Nat.le_of_ble_eq_true rfl⟩) ⟨zRd_blind, va_recv hK hP (ci := 7) (q0 := 0) rfl rfl, zRd.at (wc := [(moC q cn (kss.length : Int) ln)]) hK (hP.sub (ws' := [(moC q cn (kss.length : Int) ln)]) [0] rfl) hX⟩ rfl rfl hl.1 rfl (lv_room (Nat.le_of_ble_eq_true rfl)) dMO_isMember_2 ⟨Nat.le_of_ble_eq_true rfl, Nat.le_of_ble_eq_true rfl⟩).run) (fun z_2 q_2 => ?_)
  refine lz_if_eq (tgt := 26) hx hb dMO_isMember_5 (by decide) (by rcases q_2 with ⟨q9, _⟩ | ⟨q9, _⟩ <;> omega) (fun c_5 => ?_) (fun c_5 => ?_)
  · have hno : noH kss x := by rcases q_2 with ⟨q8, _⟩ | ⟨_, q9⟩ <;> first | exact q9 | omega
    refine lv_iconst (v := iI (0)) hx hb dMO_isMember_26 rfl ?_
    exact hret 27 ls 0 (Or.inr ⟨rfl, by first | exact noMem hno | exact fun ⟨ks9, q1, q2, q3⟩ => by rw [hH.uniq q1] at *; omega⟩) dMO_isMember_27
  · have hin : 0 ≤ x ∧ x < (kss.length : Int) := by rcases q_2 with ⟨_, q9⟩ | ⟨q9, _⟩ <;> first | exact q9 | omega
    obtain ⟨g, rfl⟩ : ∃ n : Nat, x = (n : Int) := ⟨x.toNat, by omega⟩
    obtain ⟨ks, hkg⟩ := kss_at kss g (by omega)
    have hH := isH_of hkg
    obtain ⟨hs, hln, he, hzz, hg, hk⟩ := hM.g9 hkg
    have hG := (hM.2 g ks hkg).2.2.1
    refine lv_iload_n hx hb dMO_isMember_8 rfl (lv_at hl 2 rfl) ?_
    refine lz_if_lt (tgt := 26) hx hb dMO_isMember_9 (by decide) (by omega) (fun c_9 => ?_) (fun c_9 => ?_)
    · refine lv_iconst (v := iI (0)) hx hb dMO_isMember_26 rfl ?_
      exact hret 27 ls 0 (Or.inr ⟨rfl, by first | exact noMem hno | exact fun ⟨ks9, q1, q2, q3⟩ => by rw [hH.uniq q1] at *; omega⟩) dMO_isMember_27
    · refine lv_iload_n hx hb dMO_isMember_12 rfl (lv_at hl 2 rfl) ?_
      refine lv_aload_n hx hb dMO_isMember_13 rfl (lv_at hl 0 rfl) ?_
      refine va_get (D := D) (ci := 7) (v := .ref q.xz) (C := nMO) (T := fMO) (N := 24) hx hb hts iwMO hown hK hP 0 rfl rfl 7 (by decide) (hts _ (List.mem_cons_of_mem _ lkMO_28)) (fun _ h9 => h9) rfl dMO_isMember_14 ?_
      refine lv_iload_n hx hb dMO_isMember_17 rfl (lv_at hl 1 rfl) ?_
      refine lz_ialk hx hb hK hP 2 0 rfl rfl (z := (g : Int)) g rfl (by omega) dMO_isMember_18 ?_
      refine lz_as (x := fz g) (y := (ks.length : Int)) (hzz) ?_
      refine lz_icmp_ge (tgt := 26) hx hb dMO_isMember_19 (by decide) (by omega) (by omega) (fun c_19 => ?_) (fun c_19 => ?_)
      · refine lv_iconst (v := iI (0)) hx hb dMO_isMember_26 rfl ?_
        exact hret 27 ls 0 (Or.inr ⟨rfl, by first | exact noMem hno | exact fun ⟨ks9, q1, q2, q3⟩ => by rw [hH.uniq q1] at *; omega⟩) dMO_isMember_27
      · refine lv_iconst (v := iI (1)) hx hb dMO_isMember_22 rfl ?_
        refine lv_goto (tgt := 27) hx hb dMO_isMember_23 (by decide) ?_
        exact hret 27 ls 1 (Or.inl ⟨rfl, ks, hH, by omega, by omega⟩) dMO_isMember_27

def rmMO_product : Room := { frames := 2, cells := 0, slots := 0, locals := 49 }
set_option maxHeartbeats 4000000 in
set_option maxRecDepth 100000 in
theorem mMO_product (l : Launch) (D : va_G) (cI cJ cZ : ClassId) (q : MoA) (cn gn ln : Int) (fm fz fa ga fb gb fd gd : Nat → Int) (kss : List (List Int)) (x i j : Int) (hgn : gn = (kss.length : Int)) (hM : MEM fm fz kss) (hzx : -2147483648 ≤ x ∧ x < 2147483648) (hzi : -2147483648 ≤ i ∧ i < 2147483648) (hzj : -2147483648 ≤ j ∧ j < 2147483648) : zI l yMO_product wMO_product rmMO_product D vwCl (zM cI cJ cZ) [.ref q.mo, .int (iI x), .int (iI i), .int (iI j)] [(moC q cn gn ln), (q.xm, .inl (cI, 7680, .inl (zf fm))), (q.xz, .inl (cI, 40, .inl (zf fz))), (q.xa, .inl (cI, 9, .inl (zf fa))), (q.ya, .inl (cI, 3, .inl (zf ga))), (q.xb, .inl (cI, 9, .inl (zf fb))), (q.yb, .inl (cI, 3, .inl (zf gb))), (q.xd, .inl (cI, 9, .inl (zf fd))), (q.yd, .inl (cI, 3, .inl (zf gd)))] (S := ((Nat → Int) × (Nat → Int) × (Nat → Int) × (Nat → Int) × (Nat → Int) × (Nat → Int))) (fun z u => sProduct kss x i j z) (fun u => [(moC q cn (kss.length : Int) ln), (q.xm, .inl (cI, 7680, .inl (zf fm))), (q.xz, .inl (cI, 40, .inl (zf fz))), (q.xa, .inl (cI, 9, .inl (zf u.1))), (q.ya, .inl (cI, 3, .inl (zf u.2.1))), (q.xb, .inl (cI, 9, .inl (zf u.2.2.1))), (q.yb, .inl (cI, 3, .inl (zf u.2.2.2.1))), (q.xd, .inl (cI, 9, .inl (zf u.2.2.2.2.1))), (q.yd, .inl (cI, 3, .inl (zf u.2.2.2.2.2)))]) := by
  refine zI.of (cc := cMO_product) (maxL := 4) (rt := .int) (by decide) rfl (Nat.le_of_ble_eq_true rfl) (fun _ _ _ => rfl) ?_
  intro p e s m args below meth c A ls Q hx hb hml hown hts hnm hK hD hA hAe hX hl hret H locs hP hS
  have hl : lv_has ls 4 [(0, .ref q.mo), (1, .int (iI x)), (2, .int (iI i)), (3, .int (iI j))] := hl
  subst hgn
  have hMl := hM.1
  refine lv_aload_n hx hb dMO_product_0 rfl (lv_at hl 0 rfl) ?_
  refine lv_iload_n hx hb dMO_product_1 rfl (lv_at hl 1 rfl) ?_
  refine lv_iload_n hx hb dMO_product_2 rfl (lv_at hl 2 rfl) ?_
  refine zRI.back ((va_runV (As := [.int (iI x), .int (iI i)]) (rest := []) ⟨hx, hb, hml, hown, hts⟩ (mMO_isMember l D cI cJ cZ q cn (kss.length : Int) ln fm fz kss x i rfl hM hzx hzi) (cwV 2 hts (gT1 lkMO_172 (gT1 imMO_isMember (gT1 seMO_isMember (gT1 iniMO (gTW kcMO_isMember))))) rfl rfl rfl (by decide +kernel) ⟨Nat.le_of_ble_eq_true rfl, Nat.le_of_ble_eq_true rfl⟩) ⟨zRd_blind, va_recv hK hP (ci := 7) (q0 := 0) rfl rfl, zRd.at (wc := [(moC q cn (kss.length : Int) ln), (q.xm, .inl (cI, 7680, .inl (zf fm))), (q.xz, .inl (cI, 40, .inl (zf fz)))]) hK (hP.sub (ws' := [(moC q cn (kss.length : Int) ln), (q.xm, .inl (cI, 7680, .inl (zf fm))), (q.xz, .inl (cI, 40, .inl (zf fz)))]) [0, 1, 2] rfl) (stF.now hX hS)⟩ rfl rfl hl.1 rfl (lv_room (Nat.le_of_ble_eq_true rfl)) dMO_product_3 ⟨Nat.le_of_ble_eq_true rfl, Nat.le_of_ble_eq_true rfl⟩).run) (fun z_3 q_3 => ?_)
  refine lz_if_eq (tgt := 54) hx hb dMO_product_6 (by decide) (by rcases q_3 with ⟨q9, _⟩ | ⟨q9, _⟩ <;> omega) (fun c_6 => ?_) (fun c_6 => ?_)
  · have hno : ¬ isMem kss x i := by rcases q_3 with ⟨q8, _⟩ | ⟨_, q9⟩ <;> first | exact q9 | omega
    refine lv_iconst (v := iI (-1)) hx hb dMO_product_54 rfl ?_
    exact hret H locs 0 0 55 ls (-1) (fa, ga, fb, gb, fd, gd) (sProd_no (by first | exact Or.inl hno | exact Or.inr hno)) (hP.sub [0, 1, 2, 3, 4, 5, 6, 7, 8] rfl) (hD.sub [0, 1, 2, 3, 4, 5, 6, 7, 8] (by decide) rfl) hS (Nat.zero_le _) (Nat.zero_le _) dMO_product_55
  · have hmm : isMem kss x i := by rcases q_3 with ⟨_, q9⟩ | ⟨q9, _⟩ <;> first | exact q9 | omega
    obtain ⟨ks, hH, hk0, hk1⟩ := hmm
    obtain ⟨g, rfl⟩ : ∃ n : Nat, x = (n : Int) := ⟨x.toNat, by have := hH.1; omega⟩
    obtain ⟨a9, rfl⟩ : ∃ n : Nat, i = (n : Int) := ⟨i.toNat, by omega⟩
    have hkg : kss[g]? = some ks := hH.2.2
    obtain ⟨hs, hln, he, hzz, hg, hk⟩ := hM.g9 hkg
    have hG := (hM.2 g ks hkg).2.2.1
    refine lv_aload_n hx hb dMO_product_9 rfl (lv_at hl 0 rfl) ?_
    refine lv_iload_n hx hb dMO_product_10 rfl (lv_at hl 1 rfl) ?_
    refine lv_iload_n hx hb dMO_product_11 rfl (lv_at hl 3 rfl) ?_
    refine zRI.back ((va_runV (As := [.int (iI (g : Int)), .int (iI j)]) (rest := []) ⟨hx, hb, hml, hown, hts⟩ (mMO_isMember l D cI cJ cZ q cn (kss.length : Int) ln fm fz kss (g : Int) j rfl hM hzx hzj) (cwV 2 hts (gT1 lkMO_172 (gT1 imMO_isMember (gT1 seMO_isMember (gT1 iniMO (gTW kcMO_isMember))))) rfl rfl rfl (by decide +kernel) ⟨Nat.le_of_ble_eq_true rfl, Nat.le_of_ble_eq_true rfl⟩) ⟨zRd_blind, va_recv hK hP (ci := 7) (q0 := 0) rfl rfl, zRd.at (wc := [(moC q cn (kss.length : Int) ln), (q.xm, .inl (cI, 7680, .inl (zf fm))), (q.xz, .inl (cI, 40, .inl (zf fz)))]) hK (hP.sub (ws' := [(moC q cn (kss.length : Int) ln), (q.xm, .inl (cI, 7680, .inl (zf fm))), (q.xz, .inl (cI, 40, .inl (zf fz)))]) [0, 1, 2] rfl) (stF.now hX hS)⟩ rfl rfl hl.1 rfl (lv_room (Nat.le_of_ble_eq_true rfl)) dMO_product_12 ⟨Nat.le_of_ble_eq_true rfl, Nat.le_of_ble_eq_true rfl⟩).run) (fun z_12 q_12 => ?_)
    refine lz_if_eq (tgt := 54) hx hb dMO_product_15 (by decide) (by rcases q_12 with ⟨q9, _⟩ | ⟨q9, _⟩ <;> omega) (fun c_15 => ?_) (fun c_15 => ?_)
    · have hno : ¬ isMem kss (g : Int) j := by rcases q_12 with ⟨q8, _⟩ | ⟨_, q9⟩ <;> first | exact q9 | omega
      refine lv_iconst (v := iI (-1)) hx hb dMO_product_54 rfl ?_
      exact hret H locs 0 0 55 ls (-1) (fa, ga, fb, gb, fd, gd) (sProd_no (by first | exact Or.inl hno | exact Or.inr hno)) (hP.sub [0, 1, 2, 3, 4, 5, 6, 7, 8] rfl) (hD.sub [0, 1, 2, 3, 4, 5, 6, 7, 8] (by decide) rfl) hS (Nat.zero_le _) (Nat.zero_le _) dMO_product_55
    · have hmm2 : isMem kss (g : Int) j := by rcases q_12 with ⟨_, q9⟩ | ⟨q9, _⟩ <;> first | exact q9 | omega
      obtain ⟨ks9, hH9, hj0, hj1⟩ := hmm2
      obtain rfl := hH.uniq hH9
      obtain ⟨b9, rfl⟩ : ∃ n : Nat, j = (n : Int) := ⟨j.toNat, by omega⟩
      have hv9 : ∀ j, j < ks.length → kOK (ks.getD j (-1)) := fun j hj => (hG.2.2.1 _ (getD_mem hj)).1
      refine lv_aload_n hx hb dMO_product_18 rfl (lv_at hl 0 rfl) ?_
      refine lv_iload_n hx hb dMO_product_19 rfl (lv_at hl 1 rfl) ?_
      refine lv_aload_n hx hb dMO_product_20 rfl (lv_at hl 0 rfl) ?_
      refine lv_aload_n hx hb dMO_product_21 rfl (lv_at hl 0 rfl) ?_
      refine va_get (D := D) (ci := 7) (v := .ref q.xm) (C := nMO) (T := fMO) (N := 24) hx hb hts iwMO hown hK hP 0 rfl rfl 6 (by decide) (hts _ (List.mem_cons_of_mem _ lkMO_25)) (fun _ h9 => h9) rfl dMO_product_22 ?_
      refine lv_sipush (v := iI (192)) hx hb dMO_product_25 (by decide) ?_
      refine lv_iload_n hx hb dMO_product_28 rfl (lv_at hl 1 rfl) ?_
      refine lz_imul hx hb dMO_product_29 ?_
      refine lv_iload_n hx hb dMO_product_30 rfl (lv_at hl 2 rfl) ?_
      refine lz_iadd hx hb dMO_product_31 ?_
      refine lz_ialk hx hb hK hP 1 0 rfl rfl (z := (192 * (g : Int)) + (a9 : Int)) (192 * g + a9) (by omega) (by omega) dMO_product_32 ?_
      refine lz_as (x := fm (192 * g + a9)) (y := ks.getD a9 (-1)) (he _ (by omega)) ?_
      refine lv_aload_n hx hb dMO_product_33 rfl (lv_at hl 0 rfl) ?_
      refine va_get (D := D) (ci := 7) (v := .ref q.xm) (C := nMO) (T := fMO) (N := 24) hx hb hts iwMO hown hK hP 0 rfl rfl 6 (by decide) (hts _ (List.mem_cons_of_mem _ lkMO_25)) (fun _ h9 => h9) rfl dMO_product_34 ?_
      refine lv_sipush (v := iI (192)) hx hb dMO_product_37 (by decide) ?_
      refine lv_iload_n hx hb dMO_product_40 rfl (lv_at hl 1 rfl) ?_
      refine lz_imul hx hb dMO_product_41 ?_
      refine lv_iload_n hx hb dMO_product_42 rfl (lv_at hl 3 rfl) ?_
      refine lz_iadd hx hb dMO_product_43 ?_
      refine lz_ialk hx hb hK hP 1 0 rfl rfl (z := (192 * (g : Int)) + (b9 : Int)) (192 * g + b9) (by omega) (by omega) dMO_product_44 ?_
      refine lz_as (x := fm (192 * g + b9)) (y := ks.getD b9 (-1)) (he _ (by omega)) ?_
      refine zI.back (va_runV (As := [.int (iI (ks.getD a9 (-1))), .int (iI (ks.getD b9 (-1)))]) (rest := [.int (iI (g : Int)), .ref q.mo]) ⟨hx, hb, hml, hown, hts⟩ ((mMO_times l D cI cJ cZ q cn (kss.length : Int) ln (ks.getD a9 (-1)) (ks.getD b9 (-1)) fa ga fb gb fd gd (hv9 _ (by omega)) (hv9 _ (by omega))) H.size) (cwV 2 hts (gT1 lkMO_102 (gT1 imMO_times (gT1 seMO_times (gT1 iniMO (gTW kcMO_times))))) rfl rfl rfl (by decide +kernel) ⟨Nat.le_of_ble_eq_true rfl, Nat.le_of_ble_eq_true rfl⟩) ⟨zPre_blind, va_recv hK hP (ci := 7) (q0 := 0) rfl rfl, zPre.at (wc := [(moC q cn (kss.length : Int) ln), (q.xa, .inl (cI, 9, .inl (zf fa))), (q.ya, .inl (cI, 3, .inl (zf ga))), (q.xb, .inl (cI, 9, .inl (zf fb))), (q.yb, .inl (cI, 3, .inl (zf gb))), (q.xd, .inl (cI, 9, .inl (zf fd))), (q.yd, .inl (cI, 3, .inl (zf gd)))]) hK hP hD hS hA hX [0, 3, 4, 5, 6, 7, 8] (by decide) rfl⟩ rfl rfl hl.1 rfl (lv_room (Nat.le_of_ble_eq_true rfl)) dMO_product_45 ⟨Nat.le_of_ble_eq_true rfl, Nat.le_of_ble_eq_true rfl⟩) (wr := [(q.xm, .inl (cI, 7680, .inl (zf fm))), (q.xz, .inl (cI, 40, .inl (zf fz)))]) hP hD hS hA [0, 3, 4, 5, 6, 7, 8] [1, 2] rfl rfl (by decide) (by decide) (fun z_45 u_45 H locs q_45 hP hD hS hz_45 hk_45 => ?_)
      obtain ⟨fa3, ga3, fb3, gb3, fd3, gd3⟩ := u_45
      obtain rfl : z_45 = timesK (ks.getD a9 (-1)) (ks.getD b9 (-1)) := q_45
      have hP : va_P D vwCl [(q.xm, .inl (cI, 7680, .inl (zf fm))), (q.xz, .inl (cI, 40, .inl (zf fz))), (moC q cn (kss.length : Int) ln), (q.xa, .inl (cI, 9, .inl (zf fa3))), (q.ya, .inl (cI, 3, .inl (zf ga3))), (q.xb, .inl (cI, 9, .inl (zf fb3))), (q.yb, .inl (cI, 3, .inl (zf gb3))), (q.xd, .inl (cI, 9, .inl (zf fd3))), (q.yd, .inl (cI, 3, .inl (zf gd3)))] H := hP
      have hD : va_D A [(q.xm, .inl (cI, 7680, .inl (zf fm))), (q.xz, .inl (cI, 40, .inl (zf fz))), (moC q cn (kss.length : Int) ln), (q.xa, .inl (cI, 9, .inl (zf fa3))), (q.ya, .inl (cI, 3, .inl (zf ga3))), (q.xb, .inl (cI, 9, .inl (zf fb3))), (q.yb, .inl (cI, 3, .inl (zf gb3))), (q.xd, .inl (cI, 9, .inl (zf fd3))), (q.yd, .inl (cI, 3, .inl (zf gd3)))] := hD
      refine zRI.back ((va_runV (As := [.int (iI (g : Int)), .int (iI (timesK (ks.getD a9 (-1)) (ks.getD b9 (-1))))]) (rest := []) ⟨hx, hb, hml, hown, hts⟩ (mMO_place l D cI cJ cZ q cn (kss.length : Int) ln g fm fz ks (timesK (ks.getD a9 (-1)) (ks.getD b9 (-1))) hs hln he hzz hg hk (by have := times_bd (ks.getD a9 (-1)) (ks.getD b9 (-1)); omega)) (cwV 2 hts (gT1 lkMO_119 (gT1 imMO_place (gT1 seMO_place (gT1 iniMO (gTW kcMO_place))))) rfl rfl rfl (by decide +kernel) ⟨Nat.le_of_ble_eq_true rfl, Nat.le_of_ble_eq_true rfl⟩) ⟨zRd_blind, va_recv hK hP (ci := 7) (q0 := 2) rfl rfl, zRd.at (wc := [(moC q cn (kss.length : Int) ln), (q.xm, .inl (cI, 7680, .inl (zf fm))), (q.xz, .inl (cI, 40, .inl (zf fz)))]) hK (hP.sub (ws' := [(moC q cn (kss.length : Int) ln), (q.xm, .inl (cI, 7680, .inl (zf fm))), (q.xz, .inl (cI, 40, .inl (zf fz)))]) [2, 0, 1] rfl) (stF.now hX hS)⟩ rfl rfl hl.1 rfl (lv_room (Nat.le_of_ble_eq_true rfl)) dMO_product_48 ⟨Nat.le_of_ble_eq_true rfl, Nat.le_of_ble_eq_true rfl⟩).run) (fun z_48 q_48 => ?_)
      refine lv_goto (tgt := 55) hx hb dMO_product_51 (by decide) ?_
      exact hret H locs 0 0 55 ls z_48 (fa3, ga3, fb3, gb3, fd3, gd3) (Or.inr ⟨ks, hH, Or.inr ⟨by omega, by omega, q_48⟩⟩) (hP.sub [2, 0, 1, 3, 4, 5, 6, 7, 8] rfl) (hD.sub [2, 0, 1, 3, 4, 5, 6, 7, 8] (by decide) rfl) hS (Nat.zero_le _) (Nat.zero_le _) dMO_product_55

def rmMO_find : Room := { frames := 1, cells := 0, slots := 0, locals := 25 }
set_option maxHeartbeats 4000000 in
set_option maxRecDepth 100000 in
theorem mMO_find (l : Launch) (D : va_G) (cI cJ cZ : ClassId) (q : MoA) (cn gn ln : Int) (fm fz : Nat → Int) (kss : List (List Int)) (x n p9 : Int) (hgn : gn = (kss.length : Int)) (hM : MEM fm fz kss) (hzx : -2147483648 ≤ x ∧ x < 2147483648) (hzn : -2147483648 ≤ n ∧ n < 2147483648) (hzp9 : -2147483648 ≤ p9 ∧ p9 < 2147483648) : zRI l yMO_find wMO_find rmMO_find D vwCl (zM cI cJ cZ) [.ref q.mo, .int (iI x), .int (iI n), .int (iI p9)] [(moC q cn gn ln), (q.xm, .inl (cI, 7680, .inl (zf fm))), (q.xz, .inl (cI, 40, .inl (zf fz)))] (fun z => sFind kss x n p9 z) := by
  refine zRI.of (cc := cMO_find) (maxL := 4) (rt := .int) (by decide) rfl (Nat.le_of_ble_eq_true rfl) (fun _ _ => rfl) ?_
  intro p e s m args below meth c ls Q hx hb hml hown hts hK hP hX hl hret
  have hS0 : va_S (fun _ => False) s.heap s.heap [] := va_S.rf
  have hl : lv_has ls 4 [(0, .ref q.mo), (1, .int (iI x)), (2, .int (iI n)), (3, .int (iI p9))] := hl
  subst hgn
  have hMl := hM.1
  refine lv_aload_n hx hb dMO_find_0 rfl (lv_at hl 0 rfl) ?_
  refine lv_iload_n hx hb dMO_find_1 rfl (lv_at hl 1 rfl) ?_
  refine zRI.back ((va_runV (As := [.int (iI x)]) (rest := []) ⟨hx, hb, hml, hown, hts⟩ (mMO_isGroup l D cI cJ cZ q cn (kss.length : Int) ln x hzx (by omega)) (cwV 1 hts (gT1 lkMO_151 (gT1 imMO_isGroup (gT1 seMO_isGroup (gT1 iniMO (gTW kcMO_isGroup))))) rfl rfl rfl (by decide +kernel) ⟨Nat.le_of_ble_eq_true rfl, Nat.le_of_ble_eq_true rfl⟩) ⟨zRd_blind, va_recv hK hP (ci := 7) (q0 := 0) rfl rfl, zRd.at (wc := [(moC q cn (kss.length : Int) ln)]) hK (hP.sub (ws' := [(moC q cn (kss.length : Int) ln)]) [0] rfl) hX⟩ rfl rfl hl.1 rfl (lv_room (Nat.le_of_ble_eq_true rfl)) dMO_find_2 ⟨Nat.le_of_ble_eq_true rfl, Nat.le_of_ble_eq_true rfl⟩).run) (fun z_2 q_2 => ?_)
  refine lz_if_eq (tgt := 30) hx hb dMO_find_5 (by decide) (by rcases q_2 with ⟨q9, _⟩ | ⟨q9, _⟩ <;> omega) (fun c_5 => ?_) (fun c_5 => ?_)
  · have hno : noH kss x := by rcases q_2 with ⟨q8, _⟩ | ⟨_, q9⟩ <;> first | exact q9 | omega
    refine lv_iconst (v := iI (-1)) hx hb dMO_find_30 rfl ?_
    exact hret 31 ls (-1) (Or.inl ⟨by first | exact Or.inl hno | exact Or.inr (Or.inl (by omega)) | exact Or.inr (Or.inr (by unfold isPl; omega)), rfl⟩) dMO_find_31
  · have hin : 0 ≤ x ∧ x < (kss.length : Int) := by rcases q_2 with ⟨_, q9⟩ | ⟨q9, _⟩ <;> first | exact q9 | omega
    obtain ⟨g, rfl⟩ : ∃ n : Nat, x = (n : Int) := ⟨x.toNat, by omega⟩
    obtain ⟨ks, hkg⟩ := kss_at kss g (by omega)
    have hH := isH_of hkg
    obtain ⟨hs, hln, he, hzz, hg, hk⟩ := hM.g9 hkg
    have hG := (hM.2 g ks hkg).2.2.1
    refine lv_iload_n hx hb dMO_find_8 rfl (lv_at hl 2 rfl) ?_
    refine lz_if_lt (tgt := 30) hx hb dMO_find_9 (by decide) (by omega) (fun c_9 => ?_) (fun c_9 => ?_)
    · refine lv_iconst (v := iI (-1)) hx hb dMO_find_30 rfl ?_
      exact hret 31 ls (-1) (Or.inl ⟨by first | exact Or.inl hno | exact Or.inr (Or.inl (by omega)) | exact Or.inr (Or.inr (by unfold isPl; omega)), rfl⟩) dMO_find_31
    · refine lv_iload_n hx hb dMO_find_12 rfl (lv_at hl 2 rfl) ?_
      refine lv_sipush (v := iI (19683)) hx hb dMO_find_13 (by decide) ?_
      refine lz_icmp_ge (tgt := 30) hx hb dMO_find_16 (by decide) (by omega) (by omega) (fun c_16 => ?_) (fun c_16 => ?_)
      · refine lv_iconst (v := iI (-1)) hx hb dMO_find_30 rfl ?_
        exact hret 31 ls (-1) (Or.inl ⟨by first | exact Or.inl hno | exact Or.inr (Or.inl (by omega)) | exact Or.inr (Or.inr (by unfold isPl; omega)), rfl⟩) dMO_find_31
      · refine lv_iload_n hx hb dMO_find_19 rfl (lv_at hl 3 rfl) ?_
        refine lz_if_lt (tgt := 30) hx hb dMO_find_20 (by decide) (by omega) (fun c_20 => ?_) (fun c_20 => ?_)
        · refine lv_iconst (v := iI (-1)) hx hb dMO_find_30 rfl ?_
          exact hret 31 ls (-1) (Or.inl ⟨by first | exact Or.inl hno | exact Or.inr (Or.inl (by omega)) | exact Or.inr (Or.inr (by unfold isPl; omega)), rfl⟩) dMO_find_31
        · refine lv_iload_n hx hb dMO_find_23 rfl (lv_at hl 3 rfl) ?_
          refine lv_sipush (v := iI (13824)) hx hb dMO_find_24 (by decide) ?_
          refine lz_icmp_lt (tgt := 32) hx hb dMO_find_27 (by decide) (by omega) (by omega) (fun c_27 => ?_) (fun c_27 => ?_)
          · refine lv_aload_n hx hb dMO_find_32 rfl (lv_at hl 0 rfl) ?_
            refine lv_iload_n hx hb dMO_find_33 rfl (lv_at hl 1 rfl) ?_
            refine lv_sipush (v := iI (13824)) hx hb dMO_find_34 (by decide) ?_
            refine lv_iload_n hx hb dMO_find_37 rfl (lv_at hl 2 rfl) ?_
            refine lz_imul hx hb dMO_find_38 ?_
            refine lv_iload_n hx hb dMO_find_39 rfl (lv_at hl 3 rfl) ?_
            refine lz_iadd hx hb dMO_find_40 ?_
            refine zRI.back ((va_runV (As := [.int (iI (g : Int)), .int (iI ((13824 * n) + p9))]) (rest := []) ⟨hx, hb, hml, hown, hts⟩ (mMO_place l D cI cJ cZ q cn (kss.length : Int) ln g fm fz ks (13824 * n + p9) hs hln he hzz hg hk (by omega)) (cwV 2 hts (gT1 lkMO_119 (gT1 imMO_place (gT1 seMO_place (gT1 iniMO (gTW kcMO_place))))) rfl rfl rfl (by decide +kernel) ⟨Nat.le_of_ble_eq_true rfl, Nat.le_of_ble_eq_true rfl⟩) ⟨zRd_blind, va_recv hK hP (ci := 7) (q0 := 0) rfl rfl, zRd.at (wc := [(moC q cn (kss.length : Int) ln), (q.xm, .inl (cI, 7680, .inl (zf fm))), (q.xz, .inl (cI, 40, .inl (zf fz)))]) hK (hP.sub (ws' := [(moC q cn (kss.length : Int) ln), (q.xm, .inl (cI, 7680, .inl (zf fm))), (q.xz, .inl (cI, 40, .inl (zf fz)))]) [0, 1, 2] rfl) hX⟩ rfl rfl hl.1 rfl (lv_room (Nat.le_of_ble_eq_true rfl)) dMO_find_41 ⟨Nat.le_of_ble_eq_true rfl, Nat.le_of_ble_eq_true rfl⟩).run) (fun z_41 q_41 => ?_)
            rw [show 13824 * n + p9 = n * 13824 + p9 by omega] at q_41
            exact hret 44 ls z_41 (Or.inr ⟨ks, hH, by omega, by unfold isPl; omega, q_41⟩) dMO_find_44
          · refine lv_iconst (v := iI (-1)) hx hb dMO_find_30 rfl ?_
            exact hret 31 ls (-1) (Or.inl ⟨by first | exact Or.inl hno | exact Or.inr (Or.inl (by omega)) | exact Or.inr (Or.inr (by unfold isPl; omega)), rfl⟩) dMO_find_31

def rmMO_within : Room := { frames := 1, cells := 0, slots := 0, locals := 25 }
set_option maxHeartbeats 4000000 in
set_option maxRecDepth 100000 in
theorem mMO_within (l : Launch) (D : va_G) (cI cJ cZ : ClassId) (q : MoA) (cn gn ln : Int) (fm fz : Nat → Int) (kss : List (List Int)) (x y : Int) (hgn : gn = (kss.length : Int)) (hM : MEM fm fz kss) (hzx : -2147483648 ≤ x ∧ x < 2147483648) (hzy : -2147483648 ≤ y ∧ y < 2147483648) : zRI l yMO_within wMO_within rmMO_within D vwCl (zM cI cJ cZ) [.ref q.mo, .int (iI x), .int (iI y)] [(moC q cn gn ln), (q.xm, .inl (cI, 7680, .inl (zf fm))), (q.xz, .inl (cI, 40, .inl (zf fz)))] (fun z => (z = 1 ∧ sWithin kss x y 1) ∨ (z = 0 ∧ sWithin kss x y 0)) := by
  refine zRI.of (cc := cMO_within) (maxL := 4) (rt := .boolean) (by decide) rfl (Nat.le_of_ble_eq_true rfl) (fun z h => by rcases h with ⟨rfl, _⟩ | ⟨rfl, _⟩ <;> decide) ?_
  intro p e s m args below meth c ls Q hx hb hml hown hts hK hP hX hl hret
  have hS0 : va_S (fun _ => False) s.heap s.heap [] := va_S.rf
  have hl : lv_has ls 4 [(0, .ref q.mo), (1, .int (iI x)), (2, .int (iI y))] := hl
  subst hgn
  have hMl := hM.1
  refine lv_aload_n hx hb dMO_within_0 rfl (lv_at hl 0 rfl) ?_
  refine lv_iload_n hx hb dMO_within_1 rfl (lv_at hl 1 rfl) ?_
  refine zRI.back ((va_runV (As := [.int (iI x)]) (rest := []) ⟨hx, hb, hml, hown, hts⟩ (mMO_isGroup l D cI cJ cZ q cn (kss.length : Int) ln x hzx (by omega)) (cwV 1 hts (gT1 lkMO_151 (gT1 imMO_isGroup (gT1 seMO_isGroup (gT1 iniMO (gTW kcMO_isGroup))))) rfl rfl rfl (by decide +kernel) ⟨Nat.le_of_ble_eq_true rfl, Nat.le_of_ble_eq_true rfl⟩) ⟨zRd_blind, va_recv hK hP (ci := 7) (q0 := 0) rfl rfl, zRd.at (wc := [(moC q cn (kss.length : Int) ln)]) hK (hP.sub (ws' := [(moC q cn (kss.length : Int) ln)]) [0] rfl) hX⟩ rfl rfl hl.1 rfl (lv_room (Nat.le_of_ble_eq_true rfl)) dMO_within_2 ⟨Nat.le_of_ble_eq_true rfl, Nat.le_of_ble_eq_true rfl⟩).run) (fun z_2 q_2 => ?_)
  refine lz_if_eq (tgt := 16) hx hb dMO_within_5 (by decide) (by rcases q_2 with ⟨q9, _⟩ | ⟨q9, _⟩ <;> omega) (fun c_5 => ?_) (fun c_5 => ?_)
  · have hno : noH kss x := by rcases q_2 with ⟨q8, _⟩ | ⟨_, q9⟩ <;> first | exact q9 | omega
    refine lv_iconst (v := iI (0)) hx hb dMO_within_16 rfl ?_
    exact hret 17 ls 0 (Or.inr ⟨rfl, Or.inl ⟨by first | exact Or.inl hno | exact Or.inr hno, rfl⟩⟩) dMO_within_17
  · have hin : 0 ≤ x ∧ x < (kss.length : Int) := by rcases q_2 with ⟨_, q9⟩ | ⟨q9, _⟩ <;> first | exact q9 | omega
    obtain ⟨g, rfl⟩ : ∃ n : Nat, x = (n : Int) := ⟨x.toNat, by omega⟩
    obtain ⟨ks, hkg⟩ := kss_at kss g (by omega)
    have hH := isH_of hkg
    obtain ⟨hs, hln, he, hzz, hg, hk⟩ := hM.g9 hkg
    have hG := (hM.2 g ks hkg).2.2.1
    refine lv_aload_n hx hb dMO_within_8 rfl (lv_at hl 0 rfl) ?_
    refine lv_iload_n hx hb dMO_within_9 rfl (lv_at hl 2 rfl) ?_
    refine zRI.back ((va_runV (As := [.int (iI y)]) (rest := []) ⟨hx, hb, hml, hown, hts⟩ (mMO_isGroup l D cI cJ cZ q cn (kss.length : Int) ln y hzy (by omega)) (cwV 1 hts (gT1 lkMO_151 (gT1 imMO_isGroup (gT1 seMO_isGroup (gT1 iniMO (gTW kcMO_isGroup))))) rfl rfl rfl (by decide +kernel) ⟨Nat.le_of_ble_eq_true rfl, Nat.le_of_ble_eq_true rfl⟩) ⟨zRd_blind, va_recv hK hP (ci := 7) (q0 := 0) rfl rfl, zRd.at (wc := [(moC q cn (kss.length : Int) ln)]) hK (hP.sub (ws' := [(moC q cn (kss.length : Int) ln)]) [0] rfl) hX⟩ rfl rfl hl.1 rfl (lv_room (Nat.le_of_ble_eq_true rfl)) dMO_within_10 ⟨Nat.le_of_ble_eq_true rfl, Nat.le_of_ble_eq_true rfl⟩).run) (fun z_10 q_10 => ?_)
    refine lz_if_ne (tgt := 18) hx hb dMO_within_13 (by decide) (by rcases q_10 with ⟨q9, _⟩ | ⟨q9, _⟩ <;> omega) (fun c_13 => ?_) (fun c_13 => ?_)
    · have hin2 : 0 ≤ y ∧ y < (kss.length : Int) := by rcases q_10 with ⟨_, q9⟩ | ⟨q9, _⟩ <;> first | exact q9 | omega
      obtain ⟨g2, rfl⟩ : ∃ n : Nat, y = (n : Int) := ⟨y.toNat, by omega⟩
      obtain ⟨ks2, hkg2⟩ := kss_at kss g2 (by omega)
      have hH2 := isH_of hkg2
      obtain ⟨hs2, hln2, he2, hzz2, hg2, hk2⟩ := hM.g9 hkg2
      have hG2 := (hM.2 g2 ks2 hkg2).2.2.1
      refine lv_iconst (v := iI (0)) hx hb dMO_within_18 rfl ?_
      refine lv_istore_n (lv' := [(3, .int (iI 0)), (0, .ref q.mo), (1, .int (iI (g : Int))), (2, .int (iI (g2 : Int)))]) hx hb dMO_within_19 rfl hl (by decide) rfl (fun ls hl => ?_)
      have lp20 : ∀ (n9 : Nat) (i : Nat), (i ≤ ks.length) → (∀ j, j < i → ks.getD j (-1) ∈ ks2) → (ks.length - i) < n9 → ∀ (ls : Array Slot), lv_has ls 4 [(0, .ref q.mo), (1, .int (iI (g : Int))), (2, .int (iI (g2 : Int))), (3, .int (iI (i : Int)))] → W p l e (headSpec wMO_within rmMO_within).room s m args below meth c s.heap [] 0 0 Q (F0 m 20 ls []) := by
        intro n9
        induction n9 with
        | zero => intro i hi h1 hm; exact absurd hm (Nat.not_lt_zero _)
        | succ n9 ih20 =>
          intro i hi h1 hm20 ls hl
          refine lv_iload_n hx hb dMO_within_20 rfl (lv_at hl 3 rfl) ?_
          refine lv_aload_n hx hb dMO_within_21 rfl (lv_at hl 0 rfl) ?_
          refine va_get (D := D) (ci := 7) (v := .ref q.xz) (C := nMO) (T := fMO) (N := 24) hx hb hts iwMO hown hK hP 0 rfl rfl 7 (by decide) (hts _ (List.mem_cons_of_mem _ lkMO_28)) (fun _ h9 => h9) rfl dMO_within_22 ?_
          refine lv_iload_n hx hb dMO_within_25 rfl (lv_at hl 1 rfl) ?_
          refine lz_ialk hx hb hK hP 2 0 rfl rfl (z := (g : Int)) g rfl (by omega) dMO_within_26 ?_
          refine lz_as (x := fz g) (y := (ks.length : Int)) (hzz) ?_
          refine lz_icmp_ge (tgt := 59) hx hb dMO_within_27 (by decide) (by omega) (by omega) (fun c_27 => ?_) (fun c_27 => ?_)
          · refine lv_iconst (v := iI (1)) hx hb dMO_within_59 rfl ?_
            exact hret 60 ls 1 (Or.inl ⟨rfl, Or.inr ⟨ks, ks2, hH, hH2, Or.inl ⟨rfl, fun v hv => by obtain ⟨j, hj, rfl⟩ := mem_getD hv; exact h1 j (by omega)⟩⟩⟩) dMO_within_60
          · refine lv_aload_n hx hb dMO_within_30 rfl (lv_at hl 0 rfl) ?_
            refine lv_iload_n hx hb dMO_within_31 rfl (lv_at hl 2 rfl) ?_
            refine lv_aload_n hx hb dMO_within_32 rfl (lv_at hl 0 rfl) ?_
            refine va_get (D := D) (ci := 7) (v := .ref q.xm) (C := nMO) (T := fMO) (N := 24) hx hb hts iwMO hown hK hP 0 rfl rfl 6 (by decide) (hts _ (List.mem_cons_of_mem _ lkMO_25)) (fun _ h9 => h9) rfl dMO_within_33 ?_
            refine lv_sipush (v := iI (192)) hx hb dMO_within_36 (by decide) ?_
            refine lv_iload_n hx hb dMO_within_39 rfl (lv_at hl 1 rfl) ?_
            refine lz_imul hx hb dMO_within_40 ?_
            refine lv_iload_n hx hb dMO_within_41 rfl (lv_at hl 3 rfl) ?_
            refine lz_iadd hx hb dMO_within_42 ?_
            refine lz_ialk hx hb hK hP 1 0 rfl rfl (z := (192 * (g : Int)) + (i : Int)) (192 * g + i) (by omega) (by omega) dMO_within_43 ?_
            refine lz_as (x := fm (192 * g + i)) (y := ks.getD i (-1)) (he _ (by omega)) ?_
            refine zRI.back ((va_runV (As := [.int (iI (g2 : Int)), .int (iI (ks.getD i (-1)))]) (rest := []) ⟨hx, hb, hml, hown, hts⟩ (mMO_place l D cI cJ cZ q cn (kss.length : Int) (ln) g2 fm fz ks2 (ks.getD i (-1)) hs2 hln2 he2 hzz2 hg2 hk2 (by have := hk _ (getD_mem (ks := ks) (j := i) (by omega)); omega)) (cwV 2 hts (gT1 lkMO_119 (gT1 imMO_place (gT1 seMO_place (gT1 iniMO (gTW kcMO_place))))) rfl rfl rfl (by decide +kernel) ⟨Nat.le_of_ble_eq_true rfl, Nat.le_of_ble_eq_true rfl⟩) ⟨zRd_blind, va_recv hK hP (ci := 7) (q0 := 0) rfl rfl, zRd.at (wc := [(moC q cn (kss.length : Int) ln), (q.xm, .inl (cI, 7680, .inl (zf fm))), (q.xz, .inl (cI, 40, .inl (zf fz)))]) hK (hP.sub (ws' := [(moC q cn (kss.length : Int) ln), (q.xm, .inl (cI, 7680, .inl (zf fm))), (q.xz, .inl (cI, 40, .inl (zf fz)))]) [0, 1, 2] rfl) hX⟩ rfl rfl hl.1 rfl (lv_room (Nat.le_of_ble_eq_true rfl)) dMO_within_44 ⟨Nat.le_of_ble_eq_true rfl, Nat.le_of_ble_eq_true rfl⟩).run) (fun z_44 q_44 => ?_)
            have q_44 : lix ks2 (ks.getD i (-1)) z_44 := q_44
            have hlb := lix_b q_44 hln2.2
            refine lv_iconst (v := iI (-1)) hx hb dMO_within_47 rfl ?_
            refine lz_icmp_ne (tgt := 53) hx hb dMO_within_48 (by decide) (by omega) (by omega) (fun c_48 => ?_) (fun c_48 => ?_)
            · refine lz_iinc (lv' := [(3, .int (iI ((i : Int) + 1))), (0, .ref q.mo), (1, .int (iI (g : Int))), (2, .int (iI (g2 : Int)))]) hx hb dMO_within_53 hl (k := 3) rfl (by decide) rfl (fun ls hl => ?_)
              refine lv_goto (tgt := 20) hx hb dMO_within_56 (by decide) ?_
              exact ih20 (i + 1) (by omega) (fun j hj => by
                  rcases Nat.lt_or_ge j i with q9 | q9
                  · exact h1 j q9
                  · obtain rfl : j = i := by omega
                    exact Classical.not_not.mp (fun q8 => c_48 ((lix_n q_44).mpr q8))) (by omega) _ (lv_sub hl [1, 2, 3, 0] rfl)
            · refine lv_iconst (v := iI (0)) hx hb dMO_within_51 rfl ?_
              exact hret 52 ls 0 (Or.inr ⟨rfl, Or.inr ⟨ks, ks2, hH, hH2, Or.inr ⟨rfl, fun hall => (lix_n q_44).mp c_48 (hall _ (getD_mem (by omega)))⟩⟩⟩) dMO_within_52
      exact lp20 _ 0 (Nat.zero_le _) (fun j hj => absurd hj (Nat.not_lt_zero _)) (Nat.lt_succ_self _) _ (lv_sub hl [1, 2, 3, 0] rfl)
    · have hno : noH kss y := by rcases q_10 with ⟨q8, _⟩ | ⟨_, q9⟩ <;> first | exact q9 | omega
      refine lv_iconst (v := iI (0)) hx hb dMO_within_16 rfl ?_
      exact hret 17 ls 0 (Or.inr ⟨rfl, Or.inl ⟨by first | exact Or.inl hno | exact Or.inr hno, rfl⟩⟩) dMO_within_17

def rmMO_both : Room := { frames := 1, cells := 0, slots := 0, locals := 25 }
set_option maxHeartbeats 4000000 in
set_option maxRecDepth 100000 in
theorem mMO_both (l : Launch) (D : va_G) (cI cJ cZ : ClassId) (q : MoA) (cn gn ln : Int) (fl fm fz : Nat → Int) (kss : List (List Int)) (x y : Int) (hgn : gn = (kss.length : Int)) (hM : MEM fm fz kss) (hzx : -2147483648 ≤ x ∧ x < 2147483648) (hzy : -2147483648 ≤ y ∧ y < 2147483648) : zI l yMO_both wMO_both rmMO_both D vwCl (zM cI cJ cZ) [.ref q.mo, .int (iI x), .int (iI y)] [(moC q cn gn ln), (q.xl, .inl (cI, 200, .inl (zf fl))), (q.xm, .inl (cI, 7680, .inl (zf fm))), (q.xz, .inl (cI, 40, .inl (zf fz)))] (S := ((Nat → Int) × (Nat → Int) × (Nat → Int) × List (List Int) × Int)) (fun z u => sBoth kss x y z u.2.2.2.1 ∧ MEM u.2.1 u.2.2.1 u.2.2.2.1) (fun u => [(moC q cn (u.2.2.2.1.length : Int) u.2.2.2.2), (q.xl, .inl (cI, 200, .inl (zf u.1))), (q.xm, .inl (cI, 7680, .inl (zf u.2.1))), (q.xz, .inl (cI, 40, .inl (zf u.2.2.1)))]) := by
  refine zI.of (cc := cMO_both) (maxL := 4) (rt := .int) (by decide) rfl (Nat.le_of_ble_eq_true rfl) (fun _ _ _ => rfl) ?_
  intro p e s m args below meth c A ls Q hx hb hml hown hts hnm hK hD hA hAe hX hl hret H locs hP hS
  have hl : lv_has ls 4 [(0, .ref q.mo), (1, .int (iI x)), (2, .int (iI y))] := hl
  subst hgn
  have hMl := hM.1
  refine lv_aload_n hx hb dMO_both_0 rfl (lv_at hl 0 rfl) ?_
  refine lv_iload_n hx hb dMO_both_1 rfl (lv_at hl 1 rfl) ?_
  refine zRI.back ((va_runV (As := [.int (iI x)]) (rest := []) ⟨hx, hb, hml, hown, hts⟩ (mMO_isGroup l D cI cJ cZ q cn (kss.length : Int) ln x hzx (by omega)) (cwV 1 hts (gT1 lkMO_151 (gT1 imMO_isGroup (gT1 seMO_isGroup (gT1 iniMO (gTW kcMO_isGroup))))) rfl rfl rfl (by decide +kernel) ⟨Nat.le_of_ble_eq_true rfl, Nat.le_of_ble_eq_true rfl⟩) ⟨zRd_blind, va_recv hK hP (ci := 7) (q0 := 0) rfl rfl, zRd.at (wc := [(moC q cn (kss.length : Int) ln)]) hK (hP.sub (ws' := [(moC q cn (kss.length : Int) ln)]) [0] rfl) (stF.now hX hS)⟩ rfl rfl hl.1 rfl (lv_room (Nat.le_of_ble_eq_true rfl)) dMO_both_2 ⟨Nat.le_of_ble_eq_true rfl, Nat.le_of_ble_eq_true rfl⟩).run) (fun z_2 q_2 => ?_)
  refine lz_if_eq (tgt := 16) hx hb dMO_both_5 (by decide) (by rcases q_2 with ⟨q9, _⟩ | ⟨q9, _⟩ <;> omega) (fun c_5 => ?_) (fun c_5 => ?_)
  · have hno : noH kss x := by rcases q_2 with ⟨q8, _⟩ | ⟨_, q9⟩ <;> first | exact q9 | omega
    refine lv_iconst (v := iI (-1)) hx hb dMO_both_16 rfl ?_
    exact hret H locs 0 0 17 ls (-1) (fl, fm, fz, kss, ln) ⟨Or.inl ⟨by first | exact Or.inl hno | exact Or.inr hno, rfl, rfl⟩, hM⟩ (hP.sub [0, 1, 2, 3] rfl) (hD.sub [0, 1, 2, 3] (by decide) rfl) hS (Nat.zero_le _) (Nat.zero_le _) dMO_both_17
  · have hin : 0 ≤ x ∧ x < (kss.length : Int) := by rcases q_2 with ⟨_, q9⟩ | ⟨q9, _⟩ <;> first | exact q9 | omega
    obtain ⟨g, rfl⟩ : ∃ n : Nat, x = (n : Int) := ⟨x.toNat, by omega⟩
    obtain ⟨ks, hkg⟩ := kss_at kss g (by omega)
    have hH := isH_of hkg
    obtain ⟨hs, hln, he, hzz, hg, hk⟩ := hM.g9 hkg
    have hG := (hM.2 g ks hkg).2.2.1
    refine lv_aload_n hx hb dMO_both_8 rfl (lv_at hl 0 rfl) ?_
    refine lv_iload_n hx hb dMO_both_9 rfl (lv_at hl 2 rfl) ?_
    refine zRI.back ((va_runV (As := [.int (iI y)]) (rest := []) ⟨hx, hb, hml, hown, hts⟩ (mMO_isGroup l D cI cJ cZ q cn (kss.length : Int) ln y hzy (by omega)) (cwV 1 hts (gT1 lkMO_151 (gT1 imMO_isGroup (gT1 seMO_isGroup (gT1 iniMO (gTW kcMO_isGroup))))) rfl rfl rfl (by decide +kernel) ⟨Nat.le_of_ble_eq_true rfl, Nat.le_of_ble_eq_true rfl⟩) ⟨zRd_blind, va_recv hK hP (ci := 7) (q0 := 0) rfl rfl, zRd.at (wc := [(moC q cn (kss.length : Int) ln)]) hK (hP.sub (ws' := [(moC q cn (kss.length : Int) ln)]) [0] rfl) (stF.now hX hS)⟩ rfl rfl hl.1 rfl (lv_room (Nat.le_of_ble_eq_true rfl)) dMO_both_10 ⟨Nat.le_of_ble_eq_true rfl, Nat.le_of_ble_eq_true rfl⟩).run) (fun z_10 q_10 => ?_)
    refine lz_if_ne (tgt := 18) hx hb dMO_both_13 (by decide) (by rcases q_10 with ⟨q9, _⟩ | ⟨q9, _⟩ <;> omega) (fun c_13 => ?_) (fun c_13 => ?_)
    · have hin2 : 0 ≤ y ∧ y < (kss.length : Int) := by rcases q_10 with ⟨_, q9⟩ | ⟨q9, _⟩ <;> first | exact q9 | omega
      obtain ⟨g2, rfl⟩ : ∃ n : Nat, y = (n : Int) := ⟨y.toNat, by omega⟩
      obtain ⟨ks2, hkg2⟩ := kss_at kss g2 (by omega)
      have hH2 := isH_of hkg2
      obtain ⟨hs2, hln2, he2, hzz2, hg2, hk2⟩ := hM.g9 hkg2
      have hG2 := (hM.2 g2 ks2 hkg2).2.2.1
      refine lv_aload_n hx hb dMO_both_18 rfl (lv_at hl 0 rfl) ?_
      refine lv_iconst (v := iI (0)) hx hb dMO_both_19 rfl ?_
      refine va_put (D := D) (ci := 7) (v := .int (iI 0)) (ty := .int) (C := nMO) (T := fMO) (N := 24) hx hb hts iwMO tMO tkMO nmMO hown hK hP hD hS 0 rfl rfl 10 (by decide) (hts _ (List.mem_cons_of_mem _ lkMO_95)) (fun _ h9 => h9) rfl (by decide +kernel) rfl rfl (Nat.le_of_ble_eq_true rfl) dMO_both_20 (fun H locs hP hD hS => ?_)
      have hP : va_P D vwCl [(moC q cn (kss.length : Int) 0), (q.xl, .inl (cI, 200, .inl (zf fl))), (q.xm, .inl (cI, 7680, .inl (zf fm))), (q.xz, .inl (cI, 40, .inl (zf fz)))] H := hP
      have hD : va_D A [(moC q cn (kss.length : Int) 0), (q.xl, .inl (cI, 200, .inl (zf fl))), (q.xm, .inl (cI, 7680, .inl (zf fm))), (q.xz, .inl (cI, 40, .inl (zf fz)))] := hD
      refine lv_iconst (v := iI (0)) hx hb dMO_both_23 rfl ?_
      refine lv_istore_n (lv' := [(3, .int (iI 0)), (0, .ref q.mo), (1, .int (iI (g : Int))), (2, .int (iI (g2 : Int)))]) hx hb dMO_both_24 rfl hl (by decide) rfl (fun ls hl => ?_)
      have hP : va_P D vwCl [(moC q cn (kss.length : Int) ((selT ks (fun j => ks.getD j (-1) ∈ ks2) 0).length : Int)), (q.xl, .inl (cI, 200, .inl (zf fl))), (q.xm, .inl (cI, 7680, .inl (zf fm))), (q.xz, .inl (cI, 40, .inl (zf fz)))] H := hP
      have hD : va_D A [(moC q cn (kss.length : Int) ((selT ks (fun j => ks.getD j (-1) ∈ ks2) 0).length : Int)), (q.xl, .inl (cI, 200, .inl (zf fl))), (q.xm, .inl (cI, 7680, .inl (zf fm))), (q.xz, .inl (cI, 40, .inl (zf fz)))] := hD
      have lp25 : ∀ (n9 : Nat) (i : Nat) (fl1 : Nat → Int), (i ≤ ks.length) → (emb fl1 0 (selT ks (fun j => ks.getD j (-1) ∈ ks2) i)) → (ks.length - i) < n9 → ∀ (H : Heap) (locs : List Loc), va_P D vwCl [(moC q cn (kss.length : Int) ((selT ks (fun j => ks.getD j (-1) ∈ ks2) i).length : Int)), (q.xl, .inl (cI, 200, .inl (zf fl1))), (q.xm, .inl (cI, 7680, .inl (zf fm))), (q.xz, .inl (cI, 40, .inl (zf fz)))] H → va_D A [(moC q cn (kss.length : Int) ((selT ks (fun j => ks.getD j (-1) ∈ ks2) i).length : Int)), (q.xl, .inl (cI, 200, .inl (zf fl1))), (q.xm, .inl (cI, 7680, .inl (zf fm))), (q.xz, .inl (cI, 40, .inl (zf fz)))] → va_S A s.heap H locs → ∀ (ls : Array Slot), lv_has ls 4 [(0, .ref q.mo), (1, .int (iI (g : Int))), (2, .int (iI (g2 : Int))), (3, .int (iI (i : Int)))] → W p l e (headSpec wMO_both rmMO_both).room s m args below meth c H locs 0 0 Q (F0 m 25 ls []) := by
        intro n9
        induction n9 with
        | zero => intro i fl1 hi hE hm; exact absurd hm (Nat.not_lt_zero _)
        | succ n9 ih25 =>
          intro i fl1 hi hE hm25 H locs hP hD hS ls hl
          have hsl := sel_len (ks := ks) (p := (fun j => ks.getD j (-1) ∈ ks2)) (i := i)
          refine lv_iload_n hx hb dMO_both_25 rfl (lv_at hl 3 rfl) ?_
          refine lv_aload_n hx hb dMO_both_26 rfl (lv_at hl 0 rfl) ?_
          refine va_get (D := D) (ci := 7) (v := .ref q.xz) (C := nMO) (T := fMO) (N := 24) hx hb hts iwMO hown hK hP 0 rfl rfl 7 (by decide) (hts _ (List.mem_cons_of_mem _ lkMO_28)) (fun _ h9 => h9) rfl dMO_both_27 ?_
          refine lv_iload_n hx hb dMO_both_30 rfl (lv_at hl 1 rfl) ?_
          refine lz_ialk hx hb hK hP 3 0 rfl rfl (z := (g : Int)) g rfl (by omega) dMO_both_31 ?_
          refine lz_as (x := fz g) (y := (ks.length : Int)) (hzz) ?_
          refine lz_icmp_ge (tgt := 96) hx hb dMO_both_32 (by decide) (by omega) (by omega) (fun c_32 => ?_) (fun c_32 => ?_)
          · have hin9 : i = ks.length := by omega
            rw [hin9] at hP hD hE
            refine lv_aload_n hx hb dMO_both_96 rfl (lv_at hl 0 rfl) ?_
            refine zI.back (va_runV (As := []) (rest := []) ⟨hx, hb, hml, hown, hts⟩ ((mMO_numbered l D cI cJ cZ q cn (kss.length : Int) ((selT ks (fun j => ks.getD j (-1) ∈ ks2) ks.length).length : Int) fl1 fm fz (selT ks (fun j => ks.getD j (-1) ∈ ks2) ks.length) kss rfl rfl (fset_sel hE (selT_sorted hs (Nat.le_refl _))) ⟨bothG hG hs hG2, selT_sorted hs (Nat.le_refl _), selG_len hln.2⟩ hM) H.size) (cwV 0 hts (gT1 lkMO_110 (gT1 imMO_numbered (gT1 seMO_numbered (gT1 iniMO (gTW kcMO_numbered))))) rfl rfl rfl (by decide +kernel) ⟨Nat.le_of_ble_eq_true rfl, Nat.le_of_ble_eq_true rfl⟩) ⟨zPre_blind, va_recv hK hP (ci := 7) (q0 := 0) rfl rfl, zPre.at (wc := [(moC q cn (kss.length : Int) ((selT ks (fun j => ks.getD j (-1) ∈ ks2) ks.length).length : Int)), (q.xl, .inl (cI, 200, .inl (zf fl1))), (q.xm, .inl (cI, 7680, .inl (zf fm))), (q.xz, .inl (cI, 40, .inl (zf fz)))]) hK hP hD hS hA hX [0, 1, 2, 3] (by decide) rfl⟩ rfl rfl hl.1 rfl (lv_room (Nat.le_of_ble_eq_true rfl)) dMO_both_97 ⟨Nat.le_of_ble_eq_true rfl, Nat.le_of_ble_eq_true rfl⟩) (wr := []) hP hD hS hA [0, 1, 2, 3] [] rfl rfl (by decide) (by decide) (fun z_97 u_97 H locs q_97 hP hD hS hz_97 hk_97 => ?_)
            obtain ⟨fl9, fm9, fz9, kss9⟩ := u_97
            obtain ⟨hn9, hM9⟩ := q_97
            have hP : va_P D vwCl [(moC q cn (kss9.length : Int) ((selT ks (fun j => ks.getD j (-1) ∈ ks2) ks.length).length : Int)), (q.xl, .inl (cI, 200, .inl (zf fl9))), (q.xm, .inl (cI, 7680, .inl (zf fm9))), (q.xz, .inl (cI, 40, .inl (zf fz9)))] H := hP
            have hD : va_D A [(moC q cn (kss9.length : Int) ((selT ks (fun j => ks.getD j (-1) ∈ ks2) ks.length).length : Int)), (q.xl, .inl (cI, 200, .inl (zf fl9))), (q.xm, .inl (cI, 7680, .inl (zf fm9))), (q.xz, .inl (cI, 40, .inl (zf fz9)))] := hD
            exact hret H locs 0 0 100 ls z_97 (fl9, fm9, fz9, kss9, ((selT ks (fun j => ks.getD j (-1) ∈ ks2) ks.length).length : Int)) ⟨Or.inr ⟨ks, ks2, hH, hH2, hn9⟩, hM9⟩ (hP.sub [0, 1, 2, 3] rfl) (hD.sub [0, 1, 2, 3] (by decide) rfl) hS (Nat.zero_le _) (Nat.zero_le _) dMO_both_100
          · refine lv_aload_n hx hb dMO_both_35 rfl (lv_at hl 0 rfl) ?_
            refine lv_iload_n hx hb dMO_both_36 rfl (lv_at hl 2 rfl) ?_
            refine lv_aload_n hx hb dMO_both_37 rfl (lv_at hl 0 rfl) ?_
            refine va_get (D := D) (ci := 7) (v := .ref q.xm) (C := nMO) (T := fMO) (N := 24) hx hb hts iwMO hown hK hP 0 rfl rfl 6 (by decide) (hts _ (List.mem_cons_of_mem _ lkMO_25)) (fun _ h9 => h9) rfl dMO_both_38 ?_
            refine lv_sipush (v := iI (192)) hx hb dMO_both_41 (by decide) ?_
            refine lv_iload_n hx hb dMO_both_44 rfl (lv_at hl 1 rfl) ?_
            refine lz_imul hx hb dMO_both_45 ?_
            refine lv_iload_n hx hb dMO_both_46 rfl (lv_at hl 3 rfl) ?_
            refine lz_iadd hx hb dMO_both_47 ?_
            refine lz_ialk hx hb hK hP 2 0 rfl rfl (z := (192 * (g : Int)) + (i : Int)) (192 * g + i) (by omega) (by omega) dMO_both_48 ?_
            refine lz_as (x := fm (192 * g + i)) (y := ks.getD i (-1)) (he _ (by omega)) ?_
            refine zRI.back ((va_runV (As := [.int (iI (g2 : Int)), .int (iI (ks.getD i (-1)))]) (rest := []) ⟨hx, hb, hml, hown, hts⟩ (mMO_place l D cI cJ cZ q cn (kss.length : Int) (((selT ks (fun j => ks.getD j (-1) ∈ ks2) i).length : Int)) g2 fm fz ks2 (ks.getD i (-1)) hs2 hln2 he2 hzz2 hg2 hk2 (by have := hk _ (getD_mem (ks := ks) (j := i) (by omega)); omega)) (cwV 2 hts (gT1 lkMO_119 (gT1 imMO_place (gT1 seMO_place (gT1 iniMO (gTW kcMO_place))))) rfl rfl rfl (by decide +kernel) ⟨Nat.le_of_ble_eq_true rfl, Nat.le_of_ble_eq_true rfl⟩) ⟨zRd_blind, va_recv hK hP (ci := 7) (q0 := 0) rfl rfl, zRd.at (wc := [(moC q cn (kss.length : Int) ((selT ks (fun j => ks.getD j (-1) ∈ ks2) i).length : Int)), (q.xm, .inl (cI, 7680, .inl (zf fm))), (q.xz, .inl (cI, 40, .inl (zf fz)))]) hK (hP.sub (ws' := [(moC q cn (kss.length : Int) ((selT ks (fun j => ks.getD j (-1) ∈ ks2) i).length : Int)), (q.xm, .inl (cI, 7680, .inl (zf fm))), (q.xz, .inl (cI, 40, .inl (zf fz)))]) [0, 2, 3] rfl) (stF.now hX hS)⟩ rfl rfl hl.1 rfl (lv_room (Nat.le_of_ble_eq_true rfl)) dMO_both_49 ⟨Nat.le_of_ble_eq_true rfl, Nat.le_of_ble_eq_true rfl⟩).run) (fun z_49 q_49 => ?_)
            have q_49 : lix ks2 (ks.getD i (-1)) z_49 := q_49
            have hlb := lix_b q_49 hln2.2
            refine lv_iconst (v := iI (-1)) hx hb dMO_both_52 rfl ?_
            refine lz_icmp_ne (tgt := 59) hx hb dMO_both_53 (by decide) (by omega) (by omega) (fun c_53 => ?_) (fun c_53 => ?_)
            · have c_53b : ks.getD i (-1) ∈ ks2 := Classical.not_not.mp (fun q8 => c_53 ((lix_n q_49).mpr q8))
              refine lv_aload_n hx hb dMO_both_59 rfl (lv_at hl 0 rfl) ?_
              refine va_get (D := D) (ci := 7) (v := .ref q.xl) (C := nMO) (T := fMO) (N := 24) hx hb hts iwMO hown hK hP 0 rfl rfl 9 (by decide) (hts _ (List.mem_cons_of_mem _ lkMO_31)) (fun _ h9 => h9) rfl dMO_both_60 ?_
              refine lv_aload_n hx hb dMO_both_63 rfl (lv_at hl 0 rfl) ?_
              refine va_get (D := D) (ci := 7) (v := .int (iI ((selT ks (fun j => ks.getD j (-1) ∈ ks2) i).length : Int))) (C := nMO) (T := fMO) (N := 24) hx hb hts iwMO hown hK hP 0 rfl rfl 10 (by decide) (hts _ (List.mem_cons_of_mem _ lkMO_95)) (fun _ h9 => h9) rfl dMO_both_64 ?_
              refine lv_aload_n hx hb dMO_both_67 rfl (lv_at hl 0 rfl) ?_
              refine va_get (D := D) (ci := 7) (v := .ref q.xm) (C := nMO) (T := fMO) (N := 24) hx hb hts iwMO hown hK hP 0 rfl rfl 6 (by decide) (hts _ (List.mem_cons_of_mem _ lkMO_25)) (fun _ h9 => h9) rfl dMO_both_68 ?_
              refine lv_sipush (v := iI (192)) hx hb dMO_both_71 (by decide) ?_
              refine lv_iload_n hx hb dMO_both_74 rfl (lv_at hl 1 rfl) ?_
              refine lz_imul hx hb dMO_both_75 ?_
              refine lv_iload_n hx hb dMO_both_76 rfl (lv_at hl 3 rfl) ?_
              refine lz_iadd hx hb dMO_both_77 ?_
              refine lz_ialk hx hb hK hP 2 0 rfl rfl (z := (192 * (g : Int)) + (i : Int)) (192 * g + i) (by omega) (by omega) dMO_both_78 ?_
              refine lz_as (x := fm (192 * g + i)) (y := ks.getD i (-1)) (he _ (by omega)) ?_
              refine lz_iast hx hb hK hP hD hS 1 0 rfl rfl (z := ((selT ks (fun j => ks.getD j (-1) ∈ ks2) i).length : Int)) (v := ks.getD i (-1)) (by omega) dMO_both_79 (fun H locs hP hD hS => ?_)
              have hP : va_P D vwCl [(moC q cn (kss.length : Int) ((selT ks (fun j => ks.getD j (-1) ∈ ks2) i).length : Int)), (q.xl, .inl (cI, 200, .inl (zf (zu fl1 (((selT ks (fun j => ks.getD j (-1) ∈ ks2) i).length : Int)).toNat (ks.getD i (-1)))))), (q.xm, .inl (cI, 7680, .inl (zf fm))), (q.xz, .inl (cI, 40, .inl (zf fz)))] H := hP
              have hD : va_D A [(moC q cn (kss.length : Int) ((selT ks (fun j => ks.getD j (-1) ∈ ks2) i).length : Int)), (q.xl, .inl (cI, 200, .inl (zf (zu fl1 (((selT ks (fun j => ks.getD j (-1) ∈ ks2) i).length : Int)).toNat (ks.getD i (-1)))))), (q.xm, .inl (cI, 7680, .inl (zf fm))), (q.xz, .inl (cI, 40, .inl (zf fz)))] := hD
              refine lv_aload_n hx hb dMO_both_80 rfl (lv_at hl 0 rfl) ?_
              refine lv_dup hx hb dMO_both_81 rfl ?_
              refine va_get (D := D) (ci := 7) (v := .int (iI ((selT ks (fun j => ks.getD j (-1) ∈ ks2) i).length : Int))) (C := nMO) (T := fMO) (N := 24) hx hb hts iwMO hown hK hP 0 rfl rfl 10 (by decide) (hts _ (List.mem_cons_of_mem _ lkMO_95)) (fun _ h9 => h9) rfl dMO_both_82 ?_
              refine lv_iconst (v := iI (1)) hx hb dMO_both_85 rfl ?_
              refine lz_iadd hx hb dMO_both_86 ?_
              refine va_put (D := D) (ci := 7) (v := .int (iI (((selT ks (fun j => ks.getD j (-1) ∈ ks2) i).length : Int) + 1))) (ty := .int) (C := nMO) (T := fMO) (N := 24) hx hb hts iwMO tMO tkMO nmMO hown hK hP hD hS 0 rfl rfl 10 (by decide) (hts _ (List.mem_cons_of_mem _ lkMO_95)) (fun _ h9 => h9) rfl (by decide +kernel) rfl rfl (Nat.le_of_ble_eq_true rfl) dMO_both_87 (fun H locs hP hD hS => ?_)
              have hP : va_P D vwCl [(moC q cn (kss.length : Int) (((selT ks (fun j => ks.getD j (-1) ∈ ks2) i).length : Int) + 1)), (q.xl, .inl (cI, 200, .inl (zf (zu fl1 (((selT ks (fun j => ks.getD j (-1) ∈ ks2) i).length : Int)).toNat (ks.getD i (-1)))))), (q.xm, .inl (cI, 7680, .inl (zf fm))), (q.xz, .inl (cI, 40, .inl (zf fz)))] H := hP
              have hD : va_D A [(moC q cn (kss.length : Int) (((selT ks (fun j => ks.getD j (-1) ∈ ks2) i).length : Int) + 1)), (q.xl, .inl (cI, 200, .inl (zf (zu fl1 (((selT ks (fun j => ks.getD j (-1) ∈ ks2) i).length : Int)).toNat (ks.getD i (-1)))))), (q.xm, .inl (cI, 7680, .inl (zf fm))), (q.xz, .inl (cI, 40, .inl (zf fz)))] := hD
              refine lz_iinc (lv' := [(3, .int (iI ((i : Int) + 1))), (0, .ref q.mo), (1, .int (iI (g : Int))), (2, .int (iI (g2 : Int)))]) hx hb dMO_both_90 hl (k := 3) rfl (by decide) rfl (fun ls hl => ?_)
              refine lv_goto (tgt := 25) hx hb dMO_both_93 (by decide) ?_
              rw [sel_len_s (ks := ks) (p := (fun j => ks.getD j (-1) ∈ ks2)) c_53b] at hP hD
              have hP : va_P D vwCl [(moC q cn (kss.length : Int) ((selT ks (fun j => ks.getD j (-1) ∈ ks2) (i + 1)).length : Int)), (q.xl, .inl (cI, 200, .inl (zf (zu fl1 (((selT ks (fun j => ks.getD j (-1) ∈ ks2) i).length : Int)).toNat (ks.getD i (-1)))))), (q.xm, .inl (cI, 7680, .inl (zf fm))), (q.xz, .inl (cI, 40, .inl (zf fz)))] H := hP
              have hD : va_D A [(moC q cn (kss.length : Int) ((selT ks (fun j => ks.getD j (-1) ∈ ks2) (i + 1)).length : Int)), (q.xl, .inl (cI, 200, .inl (zf (zu fl1 (((selT ks (fun j => ks.getD j (-1) ∈ ks2) i).length : Int)).toNat (ks.getD i (-1)))))), (q.xm, .inl (cI, 7680, .inl (zf fm))), (q.xz, .inl (cI, 40, .inl (zf fz)))] := hD
              exact ih25 (i + 1) (zu fl1 (((selT ks (fun j => ks.getD j (-1) ∈ ks2) i).length : Int)).toNat (ks.getD i (-1))) (by omega) (sel_emb (p := (fun j => ks.getD j (-1) ∈ ks2)) hE c_53b) (by omega) _ _ (hP.sub [0, 1, 2, 3] rfl) (hD.sub [0, 1, 2, 3] (by decide) rfl) hS _ (lv_sub hl [1, 2, 3, 0] rfl)
            · have c_53b : ¬ ks.getD i (-1) ∈ ks2 := (lix_n q_49).mp c_53
              refine lv_goto (tgt := 90) hx hb dMO_both_56 (by decide) ?_
              refine lz_iinc (lv' := [(3, .int (iI ((i : Int) + 1))), (0, .ref q.mo), (1, .int (iI (g : Int))), (2, .int (iI (g2 : Int)))]) hx hb dMO_both_90 hl (k := 3) rfl (by decide) rfl (fun ls hl => ?_)
              refine lv_goto (tgt := 25) hx hb dMO_both_93 (by decide) ?_
              rw [← selT_f (ks := ks) (p := (fun j => ks.getD j (-1) ∈ ks2)) c_53b] at hP hD
              have hP : va_P D vwCl [(moC q cn (kss.length : Int) ((selT ks (fun j => ks.getD j (-1) ∈ ks2) (i + 1)).length : Int)), (q.xl, .inl (cI, 200, .inl (zf fl1))), (q.xm, .inl (cI, 7680, .inl (zf fm))), (q.xz, .inl (cI, 40, .inl (zf fz)))] H := hP
              have hD : va_D A [(moC q cn (kss.length : Int) ((selT ks (fun j => ks.getD j (-1) ∈ ks2) (i + 1)).length : Int)), (q.xl, .inl (cI, 200, .inl (zf fl1))), (q.xm, .inl (cI, 7680, .inl (zf fm))), (q.xz, .inl (cI, 40, .inl (zf fz)))] := hD
              exact ih25 (i + 1) fl1 (by omega) (by rw [selT_f (p := (fun j => ks.getD j (-1) ∈ ks2)) c_53b]; exact hE) (by omega) _ _ (hP.sub [0, 1, 2, 3] rfl) (hD.sub [0, 1, 2, 3] (by decide) rfl) hS _ (lv_sub hl [1, 2, 3, 0] rfl)
      exact lp25 _ 0 fl (Nat.zero_le _) (fun j hj => absurd hj (Nat.not_lt_zero _)) (Nat.lt_succ_self _) _ _ (hP.sub [0, 1, 2, 3] rfl) (hD.sub [0, 1, 2, 3] (by decide) rfl) hS _ (lv_sub hl [1, 2, 3, 0] rfl)
    · have hno : noH kss y := by rcases q_10 with ⟨q8, _⟩ | ⟨_, q9⟩ <;> first | exact q9 | omega
      refine lv_iconst (v := iI (-1)) hx hb dMO_both_16 rfl ?_
      exact hret H locs 0 0 17 ls (-1) (fl, fm, fz, kss, ln) ⟨Or.inl ⟨by first | exact Or.inl hno | exact Or.inr hno, rfl, rfl⟩, hM⟩ (hP.sub [0, 1, 2, 3] rfl) (hD.sub [0, 1, 2, 3] (by decide) rfl) hS (Nat.zero_le _) (Nat.zero_le _) dMO_both_17

def rmMO_keepers : Room := { frames := 3, cells := 0, slots := 0, locals := 77 }
set_option maxHeartbeats 4000000 in
set_option maxRecDepth 100000 in
theorem mMO_keepers (l : Launch) (D : va_G) (cI cJ cZ : ClassId) (q : MoA) (cn gn ln : Int) (fl fm fz fa ga fp : Nat → Int) (kss : List (List Int)) (x pl : Int) (hgn : gn = (kss.length : Int)) (hM : MEM fm fz kss) (hzx : -2147483648 ≤ x ∧ x < 2147483648) (hzpl : -2147483648 ≤ pl ∧ pl < 2147483648) : zI l yMO_keepers wMO_keepers rmMO_keepers D vwCl (zM cI cJ cZ) [.ref q.mo, .int (iI x), .int (iI pl)] [(moC q cn gn ln), (q.xl, .inl (cI, 200, .inl (zf fl))), (q.xm, .inl (cI, 7680, .inl (zf fm))), (q.xz, .inl (cI, 40, .inl (zf fz))), (q.xa, .inl (cI, 9, .inl (zf fa))), (q.ya, .inl (cI, 3, .inl (zf ga))), (q.xp, .inl (cI, 200, .inl (zf fp)))] (S := ((Nat → Int) × (Nat → Int) × (Nat → Int) × List (List Int) × Int × (Nat → Int) × (Nat → Int) × (Nat → Int))) (fun z u => sKeepers kss x pl z u.2.2.2.1 ∧ MEM u.2.1 u.2.2.1 u.2.2.2.1) (fun u => [(moC q cn (u.2.2.2.1.length : Int) u.2.2.2.2.1), (q.xl, .inl (cI, 200, .inl (zf u.1))), (q.xm, .inl (cI, 7680, .inl (zf u.2.1))), (q.xz, .inl (cI, 40, .inl (zf u.2.2.1))), (q.xa, .inl (cI, 9, .inl (zf u.2.2.2.2.2.1))), (q.ya, .inl (cI, 3, .inl (zf u.2.2.2.2.2.2.1))), (q.xp, .inl (cI, 200, .inl (zf u.2.2.2.2.2.2.2)))]) := by
  refine zI.of (cc := cMO_keepers) (maxL := 4) (rt := .int) (by decide) rfl (Nat.le_of_ble_eq_true rfl) (fun _ _ _ => rfl) ?_
  intro p e s m args below meth c A ls Q hx hb hml hown hts hnm hK hD hA hAe hX hl hret H locs hP hS
  have hl : lv_has ls 4 [(0, .ref q.mo), (1, .int (iI x)), (2, .int (iI pl))] := hl
  subst hgn
  have hMl := hM.1
  refine lv_aload_n hx hb dMO_keepers_0 rfl (lv_at hl 0 rfl) ?_
  refine lv_iload_n hx hb dMO_keepers_1 rfl (lv_at hl 1 rfl) ?_
  refine zRI.back ((va_runV (As := [.int (iI x)]) (rest := []) ⟨hx, hb, hml, hown, hts⟩ (mMO_isGroup l D cI cJ cZ q cn (kss.length : Int) ln x hzx (by omega)) (cwV 1 hts (gT1 lkMO_151 (gT1 imMO_isGroup (gT1 seMO_isGroup (gT1 iniMO (gTW kcMO_isGroup))))) rfl rfl rfl (by decide +kernel) ⟨Nat.le_of_ble_eq_true rfl, Nat.le_of_ble_eq_true rfl⟩) ⟨zRd_blind, va_recv hK hP (ci := 7) (q0 := 0) rfl rfl, zRd.at (wc := [(moC q cn (kss.length : Int) ln)]) hK (hP.sub (ws' := [(moC q cn (kss.length : Int) ln)]) [0] rfl) (stF.now hX hS)⟩ rfl rfl hl.1 rfl (lv_room (Nat.le_of_ble_eq_true rfl)) dMO_keepers_2 ⟨Nat.le_of_ble_eq_true rfl, Nat.le_of_ble_eq_true rfl⟩).run) (fun z_2 q_2 => ?_)
  refine lz_if_eq (tgt := 19) hx hb dMO_keepers_5 (by decide) (by rcases q_2 with ⟨q9, _⟩ | ⟨q9, _⟩ <;> omega) (fun c_5 => ?_) (fun c_5 => ?_)
  · have hno : noH kss x := by rcases q_2 with ⟨q8, _⟩ | ⟨_, q9⟩ <;> first | exact q9 | omega
    refine lv_iconst (v := iI (-1)) hx hb dMO_keepers_19 rfl ?_
    exact hret H locs 0 0 20 ls (-1) (fl, fm, fz, kss, ln, fa, ga, fp) ⟨Or.inl ⟨by first | exact Or.inl hno | exact Or.inr (by unfold isPl; omega), rfl, rfl⟩, hM⟩ (hP.sub [0, 1, 2, 3, 4, 5, 6] rfl) (hD.sub [0, 1, 2, 3, 4, 5, 6] (by decide) rfl) hS (Nat.zero_le _) (Nat.zero_le _) dMO_keepers_20
  · have hin : 0 ≤ x ∧ x < (kss.length : Int) := by rcases q_2 with ⟨_, q9⟩ | ⟨q9, _⟩ <;> first | exact q9 | omega
    obtain ⟨g, rfl⟩ : ∃ n : Nat, x = (n : Int) := ⟨x.toNat, by omega⟩
    obtain ⟨ks, hkg⟩ := kss_at kss g (by omega)
    have hH := isH_of hkg
    obtain ⟨hs, hln, he, hzz, hg, hk⟩ := hM.g9 hkg
    have hG := (hM.2 g ks hkg).2.2.1
    refine lv_iload_n hx hb dMO_keepers_8 rfl (lv_at hl 2 rfl) ?_
    refine lz_if_lt (tgt := 19) hx hb dMO_keepers_9 (by decide) (by omega) (fun c_9 => ?_) (fun c_9 => ?_)
    · refine lv_iconst (v := iI (-1)) hx hb dMO_keepers_19 rfl ?_
      exact hret H locs 0 0 20 ls (-1) (fl, fm, fz, kss, ln, fa, ga, fp) ⟨Or.inl ⟨by first | exact Or.inl hno | exact Or.inr (by unfold isPl; omega), rfl, rfl⟩, hM⟩ (hP.sub [0, 1, 2, 3, 4, 5, 6] rfl) (hD.sub [0, 1, 2, 3, 4, 5, 6] (by decide) rfl) hS (Nat.zero_le _) (Nat.zero_le _) dMO_keepers_20
    · refine lv_iload_n hx hb dMO_keepers_12 rfl (lv_at hl 2 rfl) ?_
      refine lv_sipush (v := iI (13824)) hx hb dMO_keepers_13 (by decide) ?_
      refine lz_icmp_lt (tgt := 21) hx hb dMO_keepers_16 (by decide) (by omega) (by omega) (fun c_16 => ?_) (fun c_16 => ?_)
      · have hp : isPl pl := by unfold isPl; omega
        refine lv_aload_n hx hb dMO_keepers_21 rfl (lv_at hl 0 rfl) ?_
        refine lv_aload_n hx hb dMO_keepers_22 rfl (lv_at hl 0 rfl) ?_
        refine lv_iload_n hx hb dMO_keepers_23 rfl (lv_at hl 1 rfl) ?_
        refine lv_iload_n hx hb dMO_keepers_24 rfl (lv_at hl 2 rfl) ?_
        refine zI.back (va_runV (As := [.int (iI (g : Int)), .int (iI pl)]) (rest := [.ref q.mo]) ⟨hx, hb, hml, hown, hts⟩ ((mMO_keepersOf l D cI cJ cZ q cn (kss.length : Int) ln g fm fz ks pl fa ga fp hs hln he hzz hg (fun x hx => (hG.2.2.1 x hx).1) hp) H.size) (cwV 2 hts (gT1 lkMO_178 (gT1 imMO_keepersOf (gT1 seMO_keepersOf (gT1 iniMO (gTW kcMO_keepersOf))))) rfl rfl rfl (by decide +kernel) ⟨Nat.le_of_ble_eq_true rfl, Nat.le_of_ble_eq_true rfl⟩) ⟨zPre_blind, va_recv hK hP (ci := 7) (q0 := 0) rfl rfl, zPre.at (wc := [(moC q cn (kss.length : Int) ln), (q.xm, .inl (cI, 7680, .inl (zf fm))), (q.xz, .inl (cI, 40, .inl (zf fz))), (q.xa, .inl (cI, 9, .inl (zf fa))), (q.ya, .inl (cI, 3, .inl (zf ga))), (q.xp, .inl (cI, 200, .inl (zf fp)))]) hK hP hD hS hA hX [0, 2, 3, 4, 5, 6] (by decide) rfl⟩ rfl rfl hl.1 rfl (lv_room (Nat.le_of_ble_eq_true rfl)) dMO_keepers_25 ⟨Nat.le_of_ble_eq_true rfl, Nat.le_of_ble_eq_true rfl⟩) (wr := [(q.xl, .inl (cI, 200, .inl (zf fl)))]) hP hD hS hA [0, 2, 3, 4, 5, 6] [1] rfl rfl (by decide) (by decide) (fun z_25 u_25 H locs q_25 hP hD hS hz_25 hk_25 => ?_)
        obtain ⟨fa2, ga2, fp2⟩ := u_25
        obtain ⟨hzk, hek⟩ := q_25
        obtain rfl : z_25 = ((keepK ks pl).length : Int) := hzk
        have hek : emb fp2 0 (keepK ks pl) := hek
        have hkl : (keepK ks pl).length ≤ 192 := selG_len hln.2
        have hP : va_P D vwCl [(q.xl, .inl (cI, 200, .inl (zf fl))), (moC q cn (kss.length : Int) ln), (q.xm, .inl (cI, 7680, .inl (zf fm))), (q.xz, .inl (cI, 40, .inl (zf fz))), (q.xa, .inl (cI, 9, .inl (zf fa2))), (q.ya, .inl (cI, 3, .inl (zf ga2))), (q.xp, .inl (cI, 200, .inl (zf fp2)))] H := hP
        have hD : va_D A [(q.xl, .inl (cI, 200, .inl (zf fl))), (moC q cn (kss.length : Int) ln), (q.xm, .inl (cI, 7680, .inl (zf fm))), (q.xz, .inl (cI, 40, .inl (zf fz))), (q.xa, .inl (cI, 9, .inl (zf fa2))), (q.ya, .inl (cI, 3, .inl (zf ga2))), (q.xp, .inl (cI, 200, .inl (zf fp2)))] := hD
        refine va_put (D := D) (ci := 7) (v := .int (iI ((keepK ks pl).length : Int))) (ty := .int) (C := nMO) (T := fMO) (N := 24) hx hb hts iwMO tMO tkMO nmMO hown hK hP hD hS 1 rfl rfl 10 (by decide) (hts _ (List.mem_cons_of_mem _ lkMO_95)) (fun _ h9 => h9) rfl (by decide +kernel) rfl rfl (Nat.le_of_ble_eq_true rfl) dMO_keepers_28 (fun H locs hP hD hS => ?_)
        have hP : va_P D vwCl [(q.xl, .inl (cI, 200, .inl (zf fl))), (moC q cn (kss.length : Int) ((keepK ks pl).length : Int)), (q.xm, .inl (cI, 7680, .inl (zf fm))), (q.xz, .inl (cI, 40, .inl (zf fz))), (q.xa, .inl (cI, 9, .inl (zf fa2))), (q.ya, .inl (cI, 3, .inl (zf ga2))), (q.xp, .inl (cI, 200, .inl (zf fp2)))] H := hP
        have hD : va_D A [(q.xl, .inl (cI, 200, .inl (zf fl))), (moC q cn (kss.length : Int) ((keepK ks pl).length : Int)), (q.xm, .inl (cI, 7680, .inl (zf fm))), (q.xz, .inl (cI, 40, .inl (zf fz))), (q.xa, .inl (cI, 9, .inl (zf fa2))), (q.ya, .inl (cI, 3, .inl (zf ga2))), (q.xp, .inl (cI, 200, .inl (zf fp2)))] := hD
        refine lv_iconst (v := iI (0)) hx hb dMO_keepers_31 rfl ?_
        refine lv_istore_n (lv' := [(3, .int (iI 0)), (0, .ref q.mo), (1, .int (iI (g : Int))), (2, .int (iI pl))]) hx hb dMO_keepers_32 rfl hl (by decide) rfl (fun ls hl => ?_)
        have lp33 : ∀ (n9 : Nat) (i : Nat) (fl1 : Nat → Int), (i ≤ (keepK ks pl).length) → (∀ j, j < i → fl1 j = (keepK ks pl).getD j (-1)) → ((keepK ks pl).length - i) < n9 → ∀ (H : Heap) (locs : List Loc), va_P D vwCl [(moC q cn (kss.length : Int) ((keepK ks pl).length : Int)), (q.xl, .inl (cI, 200, .inl (zf fl1))), (q.xm, .inl (cI, 7680, .inl (zf fm))), (q.xz, .inl (cI, 40, .inl (zf fz))), (q.xa, .inl (cI, 9, .inl (zf fa2))), (q.ya, .inl (cI, 3, .inl (zf ga2))), (q.xp, .inl (cI, 200, .inl (zf fp2)))] H → va_D A [(moC q cn (kss.length : Int) ((keepK ks pl).length : Int)), (q.xl, .inl (cI, 200, .inl (zf fl1))), (q.xm, .inl (cI, 7680, .inl (zf fm))), (q.xz, .inl (cI, 40, .inl (zf fz))), (q.xa, .inl (cI, 9, .inl (zf fa2))), (q.ya, .inl (cI, 3, .inl (zf ga2))), (q.xp, .inl (cI, 200, .inl (zf fp2)))] → va_S A s.heap H locs → ∀ (ls : Array Slot), lv_has ls 4 [(0, .ref q.mo), (1, .int (iI (g : Int))), (2, .int (iI pl)), (3, .int (iI (i : Int)))] → W p l e (headSpec wMO_keepers rmMO_keepers).room s m args below meth c H locs 0 0 Q (F0 m 33 ls []) := by
          intro n9
          induction n9 with
          | zero => intro i fl1 hi hE hm; exact absurd hm (Nat.not_lt_zero _)
          | succ n9 ih33 =>
            intro i fl1 hi hE hm33 H locs hP hD hS ls hl
            refine lv_iload_n hx hb dMO_keepers_33 rfl (lv_at hl 3 rfl) ?_
            refine lv_aload_n hx hb dMO_keepers_34 rfl (lv_at hl 0 rfl) ?_
            refine va_get (D := D) (ci := 7) (v := .int (iI ((keepK ks pl).length : Int))) (C := nMO) (T := fMO) (N := 24) hx hb hts iwMO hown hK hP 0 rfl rfl 10 (by decide) (hts _ (List.mem_cons_of_mem _ lkMO_95)) (fun _ h9 => h9) rfl dMO_keepers_35 ?_
            refine lz_icmp_ge (tgt := 59) hx hb dMO_keepers_38 (by decide) (by omega) (by omega) (fun c_38 => ?_) (fun c_38 => ?_)
            · refine lv_aload_n hx hb dMO_keepers_59 rfl (lv_at hl 0 rfl) ?_
              refine zI.back (va_runV (As := []) (rest := []) ⟨hx, hb, hml, hown, hts⟩ ((mMO_numbered l D cI cJ cZ q cn (kss.length : Int) ((keepK ks pl).length : Int) fl1 fm fz (keepK ks pl) kss rfl rfl (fset_sel (fun j hj => by rw [Nat.zero_add]; exact hE j (by omega)) (selT_sorted hs (Nat.le_refl _))) ⟨keepG hG hs hp, selT_sorted hs (Nat.le_refl _), hkl⟩ hM) H.size) (cwV 0 hts (gT1 lkMO_110 (gT1 imMO_numbered (gT1 seMO_numbered (gT1 iniMO (gTW kcMO_numbered))))) rfl rfl rfl (by decide +kernel) ⟨Nat.le_of_ble_eq_true rfl, Nat.le_of_ble_eq_true rfl⟩) ⟨zPre_blind, va_recv hK hP (ci := 7) (q0 := 0) rfl rfl, zPre.at (wc := [(moC q cn (kss.length : Int) ((keepK ks pl).length : Int)), (q.xl, .inl (cI, 200, .inl (zf fl1))), (q.xm, .inl (cI, 7680, .inl (zf fm))), (q.xz, .inl (cI, 40, .inl (zf fz)))]) hK hP hD hS hA hX [0, 1, 2, 3] (by decide) rfl⟩ rfl rfl hl.1 rfl (lv_room (Nat.le_of_ble_eq_true rfl)) dMO_keepers_60 ⟨Nat.le_of_ble_eq_true rfl, Nat.le_of_ble_eq_true rfl⟩) (wr := [(q.xa, .inl (cI, 9, .inl (zf fa2))), (q.ya, .inl (cI, 3, .inl (zf ga2))), (q.xp, .inl (cI, 200, .inl (zf fp2)))]) hP hD hS hA [0, 1, 2, 3] [4, 5, 6] rfl rfl (by decide) (by decide) (fun z_60 u_60 H locs q_60 hP hD hS hz_60 hk_60 => ?_)
              obtain ⟨fl9, fm9, fz9, kss9⟩ := u_60
              obtain ⟨hn9, hM9⟩ := q_60
              have hP : va_P D vwCl [(q.xa, .inl (cI, 9, .inl (zf fa2))), (q.ya, .inl (cI, 3, .inl (zf ga2))), (q.xp, .inl (cI, 200, .inl (zf fp2))), (moC q cn (kss9.length : Int) ((keepK ks pl).length : Int)), (q.xl, .inl (cI, 200, .inl (zf fl9))), (q.xm, .inl (cI, 7680, .inl (zf fm9))), (q.xz, .inl (cI, 40, .inl (zf fz9)))] H := hP
              have hD : va_D A [(q.xa, .inl (cI, 9, .inl (zf fa2))), (q.ya, .inl (cI, 3, .inl (zf ga2))), (q.xp, .inl (cI, 200, .inl (zf fp2))), (moC q cn (kss9.length : Int) ((keepK ks pl).length : Int)), (q.xl, .inl (cI, 200, .inl (zf fl9))), (q.xm, .inl (cI, 7680, .inl (zf fm9))), (q.xz, .inl (cI, 40, .inl (zf fz9)))] := hD
              exact hret H locs 0 0 63 ls z_60 (fl9, fm9, fz9, kss9, ((keepK ks pl).length : Int), fa2, ga2, fp2) ⟨Or.inr ⟨ks, hH, hp, hn9⟩, hM9⟩ (hP.sub [3, 4, 5, 6, 0, 1, 2] rfl) (hD.sub [3, 4, 5, 6, 0, 1, 2] (by decide) rfl) hS (Nat.zero_le _) (Nat.zero_le _) dMO_keepers_63
            · refine lv_aload_n hx hb dMO_keepers_41 rfl (lv_at hl 0 rfl) ?_
              refine va_get (D := D) (ci := 7) (v := .ref q.xl) (C := nMO) (T := fMO) (N := 24) hx hb hts iwMO hown hK hP 0 rfl rfl 9 (by decide) (hts _ (List.mem_cons_of_mem _ lkMO_31)) (fun _ h9 => h9) rfl dMO_keepers_42 ?_
              refine lv_iload_n hx hb dMO_keepers_45 rfl (lv_at hl 3 rfl) ?_
              refine lv_aload_n hx hb dMO_keepers_46 rfl (lv_at hl 0 rfl) ?_
              refine va_get (D := D) (ci := 7) (v := .ref q.xp) (C := nMO) (T := fMO) (N := 24) hx hb hts iwMO hown hK hP 0 rfl rfl 21 (by decide) (hts _ (List.mem_cons_of_mem _ lkMO_67)) (fun _ h9 => h9) rfl dMO_keepers_47 ?_
              refine lv_iload_n hx hb dMO_keepers_50 rfl (lv_at hl 3 rfl) ?_
              refine lz_ialk hx hb hK hP 6 0 rfl rfl (z := (i : Int)) i rfl (by omega) dMO_keepers_51 ?_
              refine lz_as (x := fp2 i) (y := (keepK ks pl).getD i (-1)) (by have := hek i (by omega); rw [Nat.zero_add] at this; exact this) ?_
              refine lz_iask hx hb hK hP hD hS 1 0 rfl rfl (z := (i : Int)) (v := (keepK ks pl).getD i (-1)) i rfl (by omega) dMO_keepers_52 (fun H locs hP hD hS => ?_)
              have hP : va_P D vwCl [(moC q cn (kss.length : Int) ((keepK ks pl).length : Int)), (q.xl, .inl (cI, 200, .inl (zf (zu fl1 i ((keepK ks pl).getD i (-1)))))), (q.xm, .inl (cI, 7680, .inl (zf fm))), (q.xz, .inl (cI, 40, .inl (zf fz))), (q.xa, .inl (cI, 9, .inl (zf fa2))), (q.ya, .inl (cI, 3, .inl (zf ga2))), (q.xp, .inl (cI, 200, .inl (zf fp2)))] H := hP
              have hD : va_D A [(moC q cn (kss.length : Int) ((keepK ks pl).length : Int)), (q.xl, .inl (cI, 200, .inl (zf (zu fl1 i ((keepK ks pl).getD i (-1)))))), (q.xm, .inl (cI, 7680, .inl (zf fm))), (q.xz, .inl (cI, 40, .inl (zf fz))), (q.xa, .inl (cI, 9, .inl (zf fa2))), (q.ya, .inl (cI, 3, .inl (zf ga2))), (q.xp, .inl (cI, 200, .inl (zf fp2)))] := hD
              refine lz_iinc (lv' := [(3, .int (iI ((i : Int) + 1))), (0, .ref q.mo), (1, .int (iI (g : Int))), (2, .int (iI pl))]) hx hb dMO_keepers_53 hl (k := 3) rfl (by decide) rfl (fun ls hl => ?_)
              refine lv_goto (tgt := 33) hx hb dMO_keepers_56 (by decide) ?_
              exact ih33 (i + 1) (zu fl1 i ((keepK ks pl).getD i (-1))) (by omega) (fun j hj => by
                  by_cases e : j = i
                  · rw [e, zu_s]
                  · rw [zu_n _ _ e]; exact hE j (by omega)) (by omega) _ _ (hP.sub [0, 1, 2, 3, 4, 5, 6] rfl) (hD.sub [0, 1, 2, 3, 4, 5, 6] (by decide) rfl) hS _ (lv_sub hl [1, 2, 3, 0] rfl)
        exact lp33 _ 0 fl (Nat.zero_le _) (fun j hj => absurd hj (Nat.not_lt_zero _)) (Nat.lt_succ_self _) _ _ (hP.sub [1, 0, 2, 3, 4, 5, 6] rfl) (hD.sub [1, 0, 2, 3, 4, 5, 6] (by decide) rfl) hS _ (lv_sub hl [1, 2, 3, 0] rfl)
      · refine lv_iconst (v := iI (-1)) hx hb dMO_keepers_19 rfl ?_
        exact hret H locs 0 0 20 ls (-1) (fl, fm, fz, kss, ln, fa, ga, fp) ⟨Or.inl ⟨by first | exact Or.inl hno | exact Or.inr (by unfold isPl; omega), rfl, rfl⟩, hM⟩ (hP.sub [0, 1, 2, 3, 4, 5, 6] rfl) (hD.sub [0, 1, 2, 3, 4, 5, 6] (by decide) rfl) hS (Nat.zero_le _) (Nat.zero_le _) dMO_keepers_20

def rmMO_orbit : Room := { frames := 3, cells := 0, slots := 0, locals := 80 }
set_option maxHeartbeats 4000000 in
set_option maxRecDepth 100000 in
theorem mMO_orbit (l : Launch) (D : va_G) (cI cJ cZ : ClassId) (q : MoA) (cn gn ln : Int) (fm fz fa ga fp fo fs : Nat → Int) (kss : List (List Int)) (x pl w9 : Int) (hgn : gn = (kss.length : Int)) (hM : MEM fm fz kss) (hzx : -2147483648 ≤ x ∧ x < 2147483648) (hzpl : -2147483648 ≤ pl ∧ pl < 2147483648) (hzw9 : -2147483648 ≤ w9 ∧ w9 < 2147483648) : zI l yMO_orbit wMO_orbit rmMO_orbit D vwCl (zM cI cJ cZ) [.ref q.mo, .int (iI x), .int (iI pl), .int (iI w9)] [(moC q cn gn ln), (q.xm, .inl (cI, 7680, .inl (zf fm))), (q.xz, .inl (cI, 40, .inl (zf fz))), (q.xa, .inl (cI, 9, .inl (zf fa))), (q.ya, .inl (cI, 3, .inl (zf ga))), (q.xp, .inl (cI, 200, .inl (zf fp))), (q.xo, .inl (cI, 200, .inl (zf fo))), (q.xs, .inl (cI, 13, .inl (zf fs)))] (S := ((Nat → Int) × (Nat → Int) × (Nat → Int) × (Nat → Int) × (Nat → Int))) (fun z u => ((noH kss x ∨ ¬ isPl pl) ∧ z = -1) ∨ ∃ ks, isH kss x ks ∧ isPl pl ∧ ((w9 = -2 ∧ z = ((keepK ks pl).length : Int)) ∨ (w9 = -3 ∧ z = clsR (aT (keepK ks pl) (keepK ks pl).length) (bT (keepK ks pl) (keepK ks pl).length)) ∨ (w9 ≠ -2 ∧ w9 ≠ -3 ∧ ∃ L : List Int, L.Pairwise (· < ·) ∧ orbL ks pl ks.length L ∧ ((w9 = -1 ∧ z = (L.length : Int)) ∨ (w9 ≠ -1 ∧ z = lat L w9))))) (fun u => [(moC q cn (kss.length : Int) ln), (q.xm, .inl (cI, 7680, .inl (zf fm))), (q.xz, .inl (cI, 40, .inl (zf fz))), (q.xa, .inl (cI, 9, .inl (zf u.1))), (q.ya, .inl (cI, 3, .inl (zf u.2.1))), (q.xp, .inl (cI, 200, .inl (zf u.2.2.1))), (q.xo, .inl (cI, 200, .inl (zf u.2.2.2.1))), (q.xs, .inl (cI, 13, .inl (zf u.2.2.2.2)))]) := by
  refine zI.of (cc := cMO_orbit) (maxL := 5) (rt := .int) (by decide) rfl (Nat.le_of_ble_eq_true rfl) (fun _ _ _ => rfl) ?_
  intro p e s m args below meth c A ls Q hx hb hml hown hts hnm hK hD hA hAe hX hl hret H locs hP hS
  have hl : lv_has ls 5 [(0, .ref q.mo), (1, .int (iI x)), (2, .int (iI pl)), (3, .int (iI w9))] := hl
  subst hgn
  have hMl := hM.1
  refine lv_aload_n hx hb dMO_orbit_0 rfl (lv_at hl 0 rfl) ?_
  refine lv_iload_n hx hb dMO_orbit_1 rfl (lv_at hl 1 rfl) ?_
  refine zRI.back ((va_runV (As := [.int (iI x)]) (rest := []) ⟨hx, hb, hml, hown, hts⟩ (mMO_isGroup l D cI cJ cZ q cn (kss.length : Int) ln x hzx (by omega)) (cwV 1 hts (gT1 lkMO_151 (gT1 imMO_isGroup (gT1 seMO_isGroup (gT1 iniMO (gTW kcMO_isGroup))))) rfl rfl rfl (by decide +kernel) ⟨Nat.le_of_ble_eq_true rfl, Nat.le_of_ble_eq_true rfl⟩) ⟨zRd_blind, va_recv hK hP (ci := 7) (q0 := 0) rfl rfl, zRd.at (wc := [(moC q cn (kss.length : Int) ln)]) hK (hP.sub (ws' := [(moC q cn (kss.length : Int) ln)]) [0] rfl) (stF.now hX hS)⟩ rfl rfl hl.1 rfl (lv_room (Nat.le_of_ble_eq_true rfl)) dMO_orbit_2 ⟨Nat.le_of_ble_eq_true rfl, Nat.le_of_ble_eq_true rfl⟩).run) (fun z_2 q_2 => ?_)
  refine lz_if_eq (tgt := 19) hx hb dMO_orbit_5 (by decide) (by rcases q_2 with ⟨q9, _⟩ | ⟨q9, _⟩ <;> omega) (fun c_5 => ?_) (fun c_5 => ?_)
  · have hno : noH kss x := by rcases q_2 with ⟨q8, _⟩ | ⟨_, q9⟩ <;> first | exact q9 | omega
    refine lv_iconst (v := iI (-1)) hx hb dMO_orbit_19 rfl ?_
    exact hret H locs 0 0 20 ls (-1) (fa, ga, fp, fo, fs) (Or.inl ⟨by first | exact Or.inl hno | exact Or.inr (by unfold isPl; omega), rfl⟩) (hP.sub [0, 1, 2, 3, 4, 5, 6, 7] rfl) (hD.sub [0, 1, 2, 3, 4, 5, 6, 7] (by decide) rfl) hS (Nat.zero_le _) (Nat.zero_le _) dMO_orbit_20
  · have hin : 0 ≤ x ∧ x < (kss.length : Int) := by rcases q_2 with ⟨_, q9⟩ | ⟨q9, _⟩ <;> first | exact q9 | omega
    obtain ⟨g, rfl⟩ : ∃ n : Nat, x = (n : Int) := ⟨x.toNat, by omega⟩
    obtain ⟨ks, hkg⟩ := kss_at kss g (by omega)
    have hH := isH_of hkg
    obtain ⟨hs, hln, he, hzz, hg, hk⟩ := hM.g9 hkg
    have hG := (hM.2 g ks hkg).2.2.1
    refine lv_iload_n hx hb dMO_orbit_8 rfl (lv_at hl 2 rfl) ?_
    refine lz_if_lt (tgt := 19) hx hb dMO_orbit_9 (by decide) (by omega) (fun c_9 => ?_) (fun c_9 => ?_)
    · refine lv_iconst (v := iI (-1)) hx hb dMO_orbit_19 rfl ?_
      exact hret H locs 0 0 20 ls (-1) (fa, ga, fp, fo, fs) (Or.inl ⟨by first | exact Or.inl hno | exact Or.inr (by unfold isPl; omega), rfl⟩) (hP.sub [0, 1, 2, 3, 4, 5, 6, 7] rfl) (hD.sub [0, 1, 2, 3, 4, 5, 6, 7] (by decide) rfl) hS (Nat.zero_le _) (Nat.zero_le _) dMO_orbit_20
    · refine lv_iload_n hx hb dMO_orbit_12 rfl (lv_at hl 2 rfl) ?_
      refine lv_sipush (v := iI (13824)) hx hb dMO_orbit_13 (by decide) ?_
      refine lz_icmp_lt (tgt := 21) hx hb dMO_orbit_16 (by decide) (by omega) (by omega) (fun c_16 => ?_) (fun c_16 => ?_)
      · have hp : isPl pl := by unfold isPl; omega
        refine lv_iload_n hx hb dMO_orbit_21 rfl (lv_at hl 3 rfl) ?_
        refine lv_bipush (v := iI (-2)) hx hb dMO_orbit_22 (by decide) ?_
        refine lz_icmp_ne (tgt := 34) hx hb dMO_orbit_24 (by decide) (by omega) (by omega) (fun c_24 => ?_) (fun c_24 => ?_)
        · refine lv_iload_n hx hb dMO_orbit_34 rfl (lv_at hl 3 rfl) ?_
          refine lv_bipush (v := iI (-3)) hx hb dMO_orbit_35 (by decide) ?_
          refine lz_icmp_ne (tgt := 56) hx hb dMO_orbit_37 (by decide) (by omega) (by omega) (fun c_37 => ?_) (fun c_37 => ?_)
          · refine lv_aload_n hx hb dMO_orbit_56 rfl (lv_at hl 0 rfl) ?_
            refine lv_iload_n hx hb dMO_orbit_57 rfl (lv_at hl 1 rfl) ?_
            refine lv_iload_n hx hb dMO_orbit_58 rfl (lv_at hl 2 rfl) ?_
            refine zI.back (va_runV (As := [.int (iI (g : Int)), .int (iI pl)]) (rest := []) ⟨hx, hb, hml, hown, hts⟩ ((mMO_orbitOf l D cI cJ cZ q cn (kss.length : Int) ln g fm fz ks pl fa ga fo hs hln he hzz hg (fun x hx => (hG.2.2.1 x hx).1) hp) H.size) (cwV 2 hts (gT1 lkMO_181 (gT1 imMO_orbitOf (gT1 seMO_orbitOf (gT1 iniMO (gTW kcMO_orbitOf))))) rfl rfl rfl (by decide +kernel) ⟨Nat.le_of_ble_eq_true rfl, Nat.le_of_ble_eq_true rfl⟩) ⟨zPre_blind, va_recv hK hP (ci := 7) (q0 := 0) rfl rfl, zPre.at (wc := [(moC q cn (kss.length : Int) ln), (q.xm, .inl (cI, 7680, .inl (zf fm))), (q.xz, .inl (cI, 40, .inl (zf fz))), (q.xa, .inl (cI, 9, .inl (zf fa))), (q.ya, .inl (cI, 3, .inl (zf ga))), (q.xo, .inl (cI, 200, .inl (zf fo)))]) hK hP hD hS hA hX [0, 1, 2, 3, 4, 6] (by decide) rfl⟩ rfl rfl hl.1 rfl (lv_room (Nat.le_of_ble_eq_true rfl)) dMO_orbit_59 ⟨Nat.le_of_ble_eq_true rfl, Nat.le_of_ble_eq_true rfl⟩) (wr := [(q.xp, .inl (cI, 200, .inl (zf fp))), (q.xs, .inl (cI, 13, .inl (zf fs)))]) hP hD hS hA [0, 1, 2, 3, 4, 6] [5, 7] rfl rfl (by decide) (by decide) (fun z_59 u_59 H locs q_59 hP hD hS hz_59 hk_59 => ?_)
            obtain ⟨fa2, ga2, fo2⟩ := u_59
            obtain ⟨L, hR, hzL, hL1, hO⟩ := q_59
            obtain rfl : z_59 = (L.length : Int) := hzL
            have hR : rowOK 200 fo2 L := hR
            have hP : va_P D vwCl [(q.xp, .inl (cI, 200, .inl (zf fp))), (q.xs, .inl (cI, 13, .inl (zf fs))), (moC q cn (kss.length : Int) ln), (q.xm, .inl (cI, 7680, .inl (zf fm))), (q.xz, .inl (cI, 40, .inl (zf fz))), (q.xa, .inl (cI, 9, .inl (zf fa2))), (q.ya, .inl (cI, 3, .inl (zf ga2))), (q.xo, .inl (cI, 200, .inl (zf fo2)))] H := hP
            have hD : va_D A [(q.xp, .inl (cI, 200, .inl (zf fp))), (q.xs, .inl (cI, 13, .inl (zf fs))), (moC q cn (kss.length : Int) ln), (q.xm, .inl (cI, 7680, .inl (zf fm))), (q.xz, .inl (cI, 40, .inl (zf fz))), (q.xa, .inl (cI, 9, .inl (zf fa2))), (q.ya, .inl (cI, 3, .inl (zf ga2))), (q.xo, .inl (cI, 200, .inl (zf fo2)))] := hD
            refine lv_istore (lv' := [(4, .int (iI (L.length : Int))), (0, .ref q.mo), (1, .int (iI (g : Int))), (2, .int (iI pl)), (3, .int (iI w9))]) hx hb dMO_orbit_62 hl (by decide) rfl (fun ls hl => ?_)
            refine lv_iload_n hx hb dMO_orbit_64 rfl (lv_at hl 4 rfl) ?_
            refine lv_iconst (v := iI (-1)) hx hb dMO_orbit_65 rfl ?_
            refine lz_icmp_ne (tgt := 74) hx hb dMO_orbit_66 (by decide) (by omega) (by omega) (fun c_66 => ?_) (fun c_66 => ?_)
            · refine lv_iload_n hx hb dMO_orbit_74 rfl (lv_at hl 4 rfl) ?_
              refine lz_if_lt (tgt := 93) hx hb dMO_orbit_75 (by decide) (by omega) (fun c_75 => ?_) (fun c_75 => ?_)
              · refine lv_iconst (v := iI (-1)) hx hb dMO_orbit_93 rfl ?_
                exact hret H locs 0 0 94 ls (-1) (fa2, ga2, fp, fo2, fs) (Or.inr ⟨ks, hH, hp, Or.inr (Or.inr ⟨by omega, by omega, L, hR.2.2.2.1, hO, Or.inr ⟨by omega, (lat_out (by omega)).symm⟩⟩)⟩) (hP.sub [2, 3, 4, 5, 6, 0, 7, 1] rfl) (hD.sub [2, 3, 4, 5, 6, 0, 7, 1] (by decide) rfl) hS (Nat.zero_le _) (Nat.zero_le _) dMO_orbit_94
              · refine lv_iload_n hx hb dMO_orbit_78 rfl (lv_at hl 4 rfl) ?_
                refine lv_iload hx hb dMO_orbit_79 (lv_at hl 0 rfl) ?_
                refine lz_icmp_ge (tgt := 93) hx hb dMO_orbit_81 (by decide) (by omega) (by omega) (fun c_81 => ?_) (fun c_81 => ?_)
                · refine lv_iconst (v := iI (-1)) hx hb dMO_orbit_93 rfl ?_
                  exact hret H locs 0 0 94 ls (-1) (fa2, ga2, fp, fo2, fs) (Or.inr ⟨ks, hH, hp, Or.inr (Or.inr ⟨by omega, by omega, L, hR.2.2.2.1, hO, Or.inr ⟨by omega, (lat_out (by omega)).symm⟩⟩)⟩) (hP.sub [2, 3, 4, 5, 6, 0, 7, 1] rfl) (hD.sub [2, 3, 4, 5, 6, 0, 7, 1] (by decide) rfl) hS (Nat.zero_le _) (Nat.zero_le _) dMO_orbit_94
                · refine lv_aload_n hx hb dMO_orbit_84 rfl (lv_at hl 1 rfl) ?_
                  refine va_get (D := D) (ci := 7) (v := .ref q.xo) (C := nMO) (T := fMO) (N := 24) hx hb hts iwMO hown hK hP 2 rfl rfl 19 (by decide) (hts _ (List.mem_cons_of_mem _ lkMO_61)) (fun _ h9 => h9) rfl dMO_orbit_85 ?_
                  refine lv_iload_n hx hb dMO_orbit_88 rfl (lv_at hl 4 rfl) ?_
                  refine lz_ialk hx hb hK hP 7 0 rfl rfl (z := w9) w9.toNat (by omega) (by omega) dMO_orbit_89 ?_
                  refine lz_as (x := fo2 w9.toNat) (y := L.getD w9.toNat (-1)) (hR.2.2.1 _ (by omega)) ?_
                  refine lv_goto (tgt := 94) hx hb dMO_orbit_90 (by decide) ?_
                  exact hret H locs 0 0 94 ls (L.getD w9.toNat (-1)) (fa2, ga2, fp, fo2, fs) (Or.inr ⟨ks, hH, hp, Or.inr (Or.inr ⟨by omega, by omega, L, hR.2.2.2.1, hO, Or.inr ⟨by omega, (lat_in (by omega) (by omega)).1.symm⟩⟩)⟩) (hP.sub [2, 3, 4, 5, 6, 0, 7, 1] rfl) (hD.sub [2, 3, 4, 5, 6, 0, 7, 1] (by decide) rfl) hS (Nat.zero_le _) (Nat.zero_le _) dMO_orbit_94
            · refine lv_iload hx hb dMO_orbit_69 (lv_at hl 0 rfl) ?_
              refine lv_goto (tgt := 94) hx hb dMO_orbit_71 (by decide) ?_
              exact hret H locs 0 0 94 ls (L.length : Int) (fa2, ga2, fp, fo2, fs) (Or.inr ⟨ks, hH, hp, Or.inr (Or.inr ⟨by omega, by omega, L, hR.2.2.2.1, hO, Or.inl ⟨by omega, rfl⟩⟩)⟩) (hP.sub [2, 3, 4, 5, 6, 0, 7, 1] rfl) (hD.sub [2, 3, 4, 5, 6, 0, 7, 1] (by decide) rfl) hS (Nat.zero_le _) (Nat.zero_le _) dMO_orbit_94
          · refine lv_aload_n hx hb dMO_orbit_40 rfl (lv_at hl 0 rfl) ?_
            refine lv_aload_n hx hb dMO_orbit_41 rfl (lv_at hl 0 rfl) ?_
            refine va_get (D := D) (ci := 7) (v := .ref q.xp) (C := nMO) (T := fMO) (N := 24) hx hb hts iwMO hown hK hP 0 rfl rfl 21 (by decide) (hts _ (List.mem_cons_of_mem _ lkMO_67)) (fun _ h9 => h9) rfl dMO_orbit_42 ?_
            refine lv_iconst (v := iI (0)) hx hb dMO_orbit_45 rfl ?_
            refine lv_aload_n hx hb dMO_orbit_46 rfl (lv_at hl 0 rfl) ?_
            refine lv_iload_n hx hb dMO_orbit_47 rfl (lv_at hl 1 rfl) ?_
            refine lv_iload_n hx hb dMO_orbit_48 rfl (lv_at hl 2 rfl) ?_
            refine zI.back (va_runV (As := [.int (iI (g : Int)), .int (iI pl)]) (rest := [.int (iI 0), .ref q.xp, .ref q.mo]) ⟨hx, hb, hml, hown, hts⟩ ((mMO_keepersOf l D cI cJ cZ q cn (kss.length : Int) ln g fm fz ks pl fa ga fp hs hln he hzz hg (fun x hx => (hG.2.2.1 x hx).1) hp) H.size) (cwV 2 hts (gT1 lkMO_178 (gT1 imMO_keepersOf (gT1 seMO_keepersOf (gT1 iniMO (gTW kcMO_keepersOf))))) rfl rfl rfl (by decide +kernel) ⟨Nat.le_of_ble_eq_true rfl, Nat.le_of_ble_eq_true rfl⟩) ⟨zPre_blind, va_recv hK hP (ci := 7) (q0 := 0) rfl rfl, zPre.at (wc := [(moC q cn (kss.length : Int) ln), (q.xm, .inl (cI, 7680, .inl (zf fm))), (q.xz, .inl (cI, 40, .inl (zf fz))), (q.xa, .inl (cI, 9, .inl (zf fa))), (q.ya, .inl (cI, 3, .inl (zf ga))), (q.xp, .inl (cI, 200, .inl (zf fp)))]) hK hP hD hS hA hX [0, 1, 2, 3, 4, 5] (by decide) rfl⟩ rfl rfl hl.1 rfl (lv_room (Nat.le_of_ble_eq_true rfl)) dMO_orbit_49 ⟨Nat.le_of_ble_eq_true rfl, Nat.le_of_ble_eq_true rfl⟩) (wr := [(q.xo, .inl (cI, 200, .inl (zf fo))), (q.xs, .inl (cI, 13, .inl (zf fs)))]) hP hD hS hA [0, 1, 2, 3, 4, 5] [6, 7] rfl rfl (by decide) (by decide) (fun z_49 u_49 H locs q_49 hP hD hS hz_49 hk_49 => ?_)
            obtain ⟨fa2, ga2, fp2⟩ := u_49
            obtain ⟨hzk, hek⟩ := q_49
            obtain rfl : z_49 = ((keepK ks pl).length : Int) := hzk
            have hek : emb fp2 0 (keepK ks pl) := hek
            have hkl : (keepK ks pl).length ≤ 192 := selG_len hln.2
            have hP : va_P D vwCl [(q.xo, .inl (cI, 200, .inl (zf fo))), (q.xs, .inl (cI, 13, .inl (zf fs))), (moC q cn (kss.length : Int) ln), (q.xm, .inl (cI, 7680, .inl (zf fm))), (q.xz, .inl (cI, 40, .inl (zf fz))), (q.xa, .inl (cI, 9, .inl (zf fa2))), (q.ya, .inl (cI, 3, .inl (zf ga2))), (q.xp, .inl (cI, 200, .inl (zf fp2)))] H := hP
            have hD : va_D A [(q.xo, .inl (cI, 200, .inl (zf fo))), (q.xs, .inl (cI, 13, .inl (zf fs))), (moC q cn (kss.length : Int) ln), (q.xm, .inl (cI, 7680, .inl (zf fm))), (q.xz, .inl (cI, 40, .inl (zf fz))), (q.xa, .inl (cI, 9, .inl (zf fa2))), (q.ya, .inl (cI, 3, .inl (zf ga2))), (q.xp, .inl (cI, 200, .inl (zf fp2)))] := hD
            refine zI.back (va_runV (As := [.ref q.xp, .int (iI 0), .int (iI ((keepK ks pl).length : Int))]) (rest := []) ⟨hx, hb, hml, hown, hts⟩ ((mMO_classOf l D cI cJ cZ q cn (kss.length : Int) ln q.xp 200 fp2 0 (keepK ks pl) fa2 ga2 fs hkl hek (by omega) (keep_det hG).1 (keep_det hG).2) H.size) (cwV 3 hts (gT1 lkMO_164 (gT1 imMO_classOf (gT1 seMO_classOf (gT1 iniMO (gTW kcMO_classOf))))) rfl rfl rfl (by decide +kernel) ⟨Nat.le_of_ble_eq_true rfl, Nat.le_of_ble_eq_true rfl⟩) ⟨zPre_blind, va_recv hK hP (ci := 7) (q0 := 2) rfl rfl, zPre.at (wc := [(moC q cn (kss.length : Int) ln), (q.xp, .inl (cI, 200, .inl (zf fp2))), (q.xa, .inl (cI, 9, .inl (zf fa2))), (q.ya, .inl (cI, 3, .inl (zf ga2))), (q.xs, .inl (cI, 13, .inl (zf fs)))]) hK hP hD hS hA hX [2, 7, 5, 6, 1] (by decide) rfl⟩ rfl rfl hl.1 rfl (lv_room (Nat.le_of_ble_eq_true rfl)) dMO_orbit_52 ⟨Nat.le_of_ble_eq_true rfl, Nat.le_of_ble_eq_true rfl⟩) (wr := [(q.xo, .inl (cI, 200, .inl (zf fo))), (q.xm, .inl (cI, 7680, .inl (zf fm))), (q.xz, .inl (cI, 40, .inl (zf fz)))]) hP hD hS hA [2, 7, 5, 6, 1] [0, 3, 4] rfl rfl (by decide) (by decide) (fun z_52 u_52 H locs q_52 hP hD hS hz_52 hk_52 => ?_)
            obtain ⟨fa3, ga3, fs3⟩ := u_52
            have hP : va_P D vwCl [(q.xo, .inl (cI, 200, .inl (zf fo))), (q.xm, .inl (cI, 7680, .inl (zf fm))), (q.xz, .inl (cI, 40, .inl (zf fz))), (moC q cn (kss.length : Int) ln), (q.xp, .inl (cI, 200, .inl (zf fp2))), (q.xa, .inl (cI, 9, .inl (zf fa3))), (q.ya, .inl (cI, 3, .inl (zf ga3))), (q.xs, .inl (cI, 13, .inl (zf fs3)))] H := hP
            have hD : va_D A [(q.xo, .inl (cI, 200, .inl (zf fo))), (q.xm, .inl (cI, 7680, .inl (zf fm))), (q.xz, .inl (cI, 40, .inl (zf fz))), (moC q cn (kss.length : Int) ln), (q.xp, .inl (cI, 200, .inl (zf fp2))), (q.xa, .inl (cI, 9, .inl (zf fa3))), (q.ya, .inl (cI, 3, .inl (zf ga3))), (q.xs, .inl (cI, 13, .inl (zf fs3)))] := hD
            exact hret H locs 0 0 55 ls z_52 (fa3, ga3, fp2, fo, fs3) (Or.inr ⟨ks, hH, hp, Or.inr (Or.inl ⟨by omega, q_52⟩)⟩) (hP.sub [3, 1, 2, 5, 6, 4, 0, 7] rfl) (hD.sub [3, 1, 2, 5, 6, 4, 0, 7] (by decide) rfl) hS (Nat.zero_le _) (Nat.zero_le _) dMO_orbit_55
        · refine lv_aload_n hx hb dMO_orbit_27 rfl (lv_at hl 0 rfl) ?_
          refine lv_iload_n hx hb dMO_orbit_28 rfl (lv_at hl 1 rfl) ?_
          refine lv_iload_n hx hb dMO_orbit_29 rfl (lv_at hl 2 rfl) ?_
          refine zI.back (va_runV (As := [.int (iI (g : Int)), .int (iI pl)]) (rest := []) ⟨hx, hb, hml, hown, hts⟩ ((mMO_keepersOf l D cI cJ cZ q cn (kss.length : Int) ln g fm fz ks pl fa ga fp hs hln he hzz hg (fun x hx => (hG.2.2.1 x hx).1) hp) H.size) (cwV 2 hts (gT1 lkMO_178 (gT1 imMO_keepersOf (gT1 seMO_keepersOf (gT1 iniMO (gTW kcMO_keepersOf))))) rfl rfl rfl (by decide +kernel) ⟨Nat.le_of_ble_eq_true rfl, Nat.le_of_ble_eq_true rfl⟩) ⟨zPre_blind, va_recv hK hP (ci := 7) (q0 := 0) rfl rfl, zPre.at (wc := [(moC q cn (kss.length : Int) ln), (q.xm, .inl (cI, 7680, .inl (zf fm))), (q.xz, .inl (cI, 40, .inl (zf fz))), (q.xa, .inl (cI, 9, .inl (zf fa))), (q.ya, .inl (cI, 3, .inl (zf ga))), (q.xp, .inl (cI, 200, .inl (zf fp)))]) hK hP hD hS hA hX [0, 1, 2, 3, 4, 5] (by decide) rfl⟩ rfl rfl hl.1 rfl (lv_room (Nat.le_of_ble_eq_true rfl)) dMO_orbit_30 ⟨Nat.le_of_ble_eq_true rfl, Nat.le_of_ble_eq_true rfl⟩) (wr := [(q.xo, .inl (cI, 200, .inl (zf fo))), (q.xs, .inl (cI, 13, .inl (zf fs)))]) hP hD hS hA [0, 1, 2, 3, 4, 5] [6, 7] rfl rfl (by decide) (by decide) (fun z_30 u_30 H locs q_30 hP hD hS hz_30 hk_30 => ?_)
          obtain ⟨fa2, ga2, fp2⟩ := u_30
          obtain ⟨hzk, hek⟩ := q_30
          obtain rfl : z_30 = ((keepK ks pl).length : Int) := hzk
          have hek : emb fp2 0 (keepK ks pl) := hek
          have hkl : (keepK ks pl).length ≤ 192 := selG_len hln.2
          have hP : va_P D vwCl [(q.xo, .inl (cI, 200, .inl (zf fo))), (q.xs, .inl (cI, 13, .inl (zf fs))), (moC q cn (kss.length : Int) ln), (q.xm, .inl (cI, 7680, .inl (zf fm))), (q.xz, .inl (cI, 40, .inl (zf fz))), (q.xa, .inl (cI, 9, .inl (zf fa2))), (q.ya, .inl (cI, 3, .inl (zf ga2))), (q.xp, .inl (cI, 200, .inl (zf fp2)))] H := hP
          have hD : va_D A [(q.xo, .inl (cI, 200, .inl (zf fo))), (q.xs, .inl (cI, 13, .inl (zf fs))), (moC q cn (kss.length : Int) ln), (q.xm, .inl (cI, 7680, .inl (zf fm))), (q.xz, .inl (cI, 40, .inl (zf fz))), (q.xa, .inl (cI, 9, .inl (zf fa2))), (q.ya, .inl (cI, 3, .inl (zf ga2))), (q.xp, .inl (cI, 200, .inl (zf fp2)))] := hD
          exact hret H locs 0 0 33 ls ((keepK ks pl).length : Int) (fa2, ga2, fp2, fo, fs) (Or.inr ⟨ks, hH, hp, Or.inl ⟨by omega, rfl⟩⟩) (hP.sub [2, 3, 4, 5, 6, 7, 0, 1] rfl) (hD.sub [2, 3, 4, 5, 6, 7, 0, 1] (by decide) rfl) hS (Nat.zero_le _) (Nat.zero_le _) dMO_orbit_33
      · refine lv_iconst (v := iI (-1)) hx hb dMO_orbit_19 rfl ?_
        exact hret H locs 0 0 20 ls (-1) (fa, ga, fp, fo, fs) (Or.inl ⟨by first | exact Or.inl hno | exact Or.inr (by unfold isPl; omega), rfl⟩) (hP.sub [0, 1, 2, 3, 4, 5, 6, 7] rfl) (hD.sub [0, 1, 2, 3, 4, 5, 6, 7] (by decide) rfl) hS (Nat.zero_le _) (Nat.zero_le _) dMO_orbit_20
