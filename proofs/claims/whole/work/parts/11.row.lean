/-! Row: written by wip/whole/genrow.py -/
def rmRO_size : Room := { frames := 0, cells := 0, slots := 0, locals := 0 }
set_option maxHeartbeats 4000000 in
set_option maxRecDepth 100000 in
theorem mRO_size (l : Launch) (D : va_G) (cI cG : ClassId) (r a : Nat) (sz : Int)  : zRI l yRO_size wRO_size rmRO_size D vwCl (zT cI cG) [.ref r] [(r, .inr (5, [.ref a, .int (iI sz)]))] (fun z => z = sz) := by
  refine zRI.of (cc := cRO_size) (maxL := 1) (rt := .int) (by decide) rfl (Nat.le_of_ble_eq_true rfl) (fun _ _ => rfl) ?_
  intro p e s m args below meth c ls Q hx hb hml hown hts hK hP hX hl hret
  have hS0 : va_S (fun _ => False) s.heap s.heap [] := va_S.rf
  have hl : lv_has ls 1 [(0, .ref r)] := hl
  refine lv_aload_n hx hb dRO_size_0 rfl (lv_at hl 0 rfl) ?_
  refine va_get (D := D) (ci := 5) (v := .int (iI sz)) (C := nRO) (T := fRO) (N := 2) hx hb hts iwRO hown hK hP 0 rfl rfl 1 (by decide) (hts _ (List.mem_cons_of_mem _ lkRO_9)) (fun _ h9 => h9) rfl dRO_size_1 ?_
  exact hret 4 ls sz rfl dRO_size_4

def rmRO_clear : Room := { frames := 0, cells := 0, slots := 0, locals := 0 }
set_option maxHeartbeats 4000000 in
set_option maxRecDepth 100000 in
theorem mRO_clear (l : Launch) (D : va_G) (cI cG : ClassId) (r a : Nat) (sz : Int)  : zV l yRO_clear wRO_clear rmRO_clear D vwCl (zT cI cG) [.ref r] [(r, .inr (5, [.ref a, .int (iI sz)]))] (S := Unit) (fun u => True) (fun u => [(r, .inr (5, [.ref a, .int (iI 0)]))]) := by
  refine zV.of (cc := cRO_clear) (maxL := 1) (by decide) rfl (Nat.le_of_ble_eq_true rfl) ?_
  intro p e s m args below meth c A ls Q hx hb hml hown hts hnm hK hD hA hAe hX hl hret H locs hP hS
  have hl : lv_has ls 1 [(0, .ref r)] := hl
  refine lv_aload_n hx hb dRO_clear_0 rfl (lv_at hl 0 rfl) ?_
  refine lv_iconst (v := iI (0)) hx hb dRO_clear_1 rfl ?_
  refine va_put (D := D) (ci := 5) (v := .int (iI 0)) (ty := .int) (C := nRO) (T := fRO) (N := 2) hx hb hts iwRO tRO tkRO nmRO hown hK hP hD hS 0 rfl rfl 1 (by decide) (hts _ (List.mem_cons_of_mem _ lkRO_9)) (fun _ h9 => h9) rfl (by decide +kernel) rfl rfl (Nat.le_of_ble_eq_true rfl) dRO_clear_2 (fun H locs hP hD hS => ?_)
  have hP : va_P D vwCl [(r, .inr (5, [.ref a, .int (iI 0)]))] H := hP
  have hD : va_D A [(r, .inr (5, [.ref a, .int (iI 0)]))] := hD
  exact hret H locs 0 0 5 ls () trivial (hP.sub [0] rfl) (hD.sub [0] (by decide) rfl) hS (Nat.zero_le _) (Nat.zero_le _) dRO_clear_5

def rmRO_at : Room := { frames := 0, cells := 0, slots := 0, locals := 0 }
set_option maxHeartbeats 4000000 in
set_option maxRecDepth 100000 in
theorem mRO_at (l : Launch) (D : va_G) (cI cG : ClassId) (r a n : Nat) (f : Nat → Int) (ks : List Int) (k : Int) (h : rowOK n f ks) (hk : -2147483648 ≤ k ∧ k < 2147483648) : zRI l yRO_at wRO_at rmRO_at D vwCl (zT cI cG) [.ref r, .int (iI k)] [(r, .inr (5, [.ref a, .int (iI (ks.length : Int))])), (a, .inl (cI, n, .inl (zf f)))] (fun z => z = lat ks k) := by
  refine zRI.of (cc := cRO_at) (maxL := 2) (rt := .int) (by decide) rfl (Nat.le_of_ble_eq_true rfl) (fun _ _ => rfl) ?_
  intro p e s m args below meth c ls Q hx hb hml hown hts hK hP hX hl hret
  have hS0 : va_S (fun _ => False) s.heap s.heap [] := va_S.rf
  have hl : lv_has ls 2 [(0, .ref r), (1, .int (iI k))] := hl
  have hb1 := h.1
  have hb2 := h.2.1
  refine lv_iload_n hx hb dRO_at_0 rfl (lv_at hl 1 rfl) ?_
  refine lz_if_lt (tgt := 30) hx hb dRO_at_1 (by decide) (by omega) (fun c_1 => ?_) (fun c_1 => ?_)
  · refine lv_iconst (v := iI (-1)) hx hb dRO_at_30 rfl ?_
    exact hret 31 ls (-1) (lat_out (by omega)).symm dRO_at_31
  · refine lv_iload_n hx hb dRO_at_4 rfl (lv_at hl 1 rfl) ?_
    refine lv_aload_n hx hb dRO_at_5 rfl (lv_at hl 0 rfl) ?_
    refine va_get (D := D) (ci := 5) (v := .int (iI (ks.length : Int))) (C := nRO) (T := fRO) (N := 2) hx hb hts iwRO hown hK hP 0 rfl rfl 1 (by decide) (hts _ (List.mem_cons_of_mem _ lkRO_9)) (fun _ h9 => h9) rfl dRO_at_6 ?_
    refine lz_icmp_ge (tgt := 30) hx hb dRO_at_9 (by decide) (by omega) (by omega) (fun c_9 => ?_) (fun c_9 => ?_)
    · refine lv_iconst (v := iI (-1)) hx hb dRO_at_30 rfl ?_
      exact hret 31 ls (-1) (lat_out (by omega)).symm dRO_at_31
    · refine lv_iload_n hx hb dRO_at_12 rfl (lv_at hl 1 rfl) ?_
      refine lv_aload_n hx hb dRO_at_13 rfl (lv_at hl 0 rfl) ?_
      refine va_get (D := D) (ci := 5) (v := .ref a) (C := nRO) (T := fRO) (N := 2) hx hb hts iwRO hown hK hP 0 rfl rfl 0 (by decide) (hts _ (List.mem_cons_of_mem _ lkRO_21)) (fun _ h9 => h9) rfl dRO_at_14 ?_
      refine lz_alen hx hb hK hP 1 0 rfl rfl dRO_at_17 ?_
      refine lz_icmp_ge (tgt := 30) hx hb dRO_at_18 (by decide) (by omega) (by omega) (fun c_18 => ?_) (fun c_18 => ?_)
      · exact absurd c_18 (by omega)
      · refine lv_aload_n hx hb dRO_at_21 rfl (lv_at hl 0 rfl) ?_
        refine va_get (D := D) (ci := 5) (v := .ref a) (C := nRO) (T := fRO) (N := 2) hx hb hts iwRO hown hK hP 0 rfl rfl 0 (by decide) (hts _ (List.mem_cons_of_mem _ lkRO_21)) (fun _ h9 => h9) rfl dRO_at_22 ?_
        refine lv_iload_n hx hb dRO_at_25 rfl (lv_at hl 1 rfl) ?_
        refine lz_iald hx hb hK hP 1 0 rfl rfl (z := k) (by omega) dRO_at_26 ?_
        refine lv_goto (tgt := 31) hx hb dRO_at_27 (by decide) ?_
        exact hret 31 ls (f (k).toNat) (by rw [(lat_in c_1 c_9).1]; exact h.2.2.1 _ (by omega)) dRO_at_31

def rmRO_firstNotBelow : Room := { frames := 0, cells := 0, slots := 0, locals := 0 }
set_option maxHeartbeats 4000000 in
set_option maxRecDepth 100000 in
theorem mRO_firstNotBelow (l : Launch) (D : va_G) (cI cG : ClassId) (r a n : Nat) (f : Nat → Int) (ks : List Int) (x : Int) (h : rowOK n f ks) (hx1 : -2147483648 ≤ x ∧ x < 2147483648) : zRI l yRO_firstNotBelow wRO_firstNotBelow rmRO_firstNotBelow D vwCl (zT cI cG) [.ref r, .int (iI x)] [(r, .inr (5, [.ref a, .int (iI (ks.length : Int))])), (a, .inl (cI, n, .inl (zf f)))] (fun z => fnb ks x z) := by
  refine zRI.of (cc := cRO_firstNotBelow) (maxL := 6) (rt := .int) (by decide) rfl (Nat.le_of_ble_eq_true rfl) (fun _ _ => rfl) ?_
  intro p e s m args below meth c ls Q hx hb hml hown hts hK hP hX hl hret
  have hS0 : va_S (fun _ => False) s.heap s.heap [] := va_S.rf
  have hl : lv_has ls 6 [(0, .ref r), (1, .int (iI x))] := hl
  have hb1 := h.1
  have hb2 := h.2.1
  have hb3 := hbs_32
  refine lv_iconst (v := iI (0)) hx hb dRO_firstNotBelow_0 rfl ?_
  refine lv_istore_n (lv' := [(2, .int (iI 0)), (0, .ref r), (1, .int (iI x))]) hx hb dRO_firstNotBelow_1 rfl hl (by decide) rfl (fun ls hl => ?_)
  refine lv_aload_n hx hb dRO_firstNotBelow_2 rfl (lv_at hl 1 rfl) ?_
  refine va_get (D := D) (ci := 5) (v := .int (iI (ks.length : Int))) (C := nRO) (T := fRO) (N := 2) hx hb hts iwRO hown hK hP 0 rfl rfl 1 (by decide) (hts _ (List.mem_cons_of_mem _ lkRO_9)) (fun _ h9 => h9) rfl dRO_firstNotBelow_3 ?_
  refine lv_istore_n (lv' := [(3, .int (iI (ks.length : Int))), (2, .int (iI 0)), (0, .ref r), (1, .int (iI x))]) hx hb dRO_firstNotBelow_6 rfl hl (by decide) rfl (fun ls hl => ?_)
  refine lv_iconst (v := iI (0)) hx hb dRO_firstNotBelow_7 rfl ?_
  refine lv_istore (lv' := [(4, .int (iI 0)), (3, .int (iI (ks.length : Int))), (2, .int (iI 0)), (0, .ref r), (1, .int (iI x))]) hx hb dRO_firstNotBelow_8 hl (by decide) rfl (fun ls hl => ?_)
  have lp10 : ∀ (n9 : Nat) (k : Nat) (lo hi : Int), (fnbI ks x lo hi) → (hi - lo ≤ hbs k) → (k ≤ 32) → (32 - k) < n9 → ∀ (ls : Array Slot), lv_has ls 6 [(0, .ref r), (1, .int (iI x)), (2, .int (iI lo)), (3, .int (iI hi)), (4, .int (iI (k : Int)))] → W p l e (headSpec wRO_firstNotBelow rmRO_firstNotBelow).room s m args below meth c s.heap [] 0 0 Q (F0 m 10 ls []) := by
    intro n9
    induction n9 with
    | zero => intro k lo hi hI hw hk hm; exact absurd hm (Nat.not_lt_zero _)
    | succ n9 ih10 =>
      intro k lo hi hI hw hk hm10 ls hl
      refine lv_iload hx hb dRO_firstNotBelow_10 (lv_at hl 4 rfl) ?_
      refine lv_bipush (v := iI (32)) hx hb dRO_firstNotBelow_12 (by decide) ?_
      refine lz_icmp_ge (tgt := 67) hx hb dRO_firstNotBelow_14 (by decide) (by omega) (by omega) (fun c_14 => ?_) (fun c_14 => ?_)
      · obtain ⟨i1, i2, i3, i4, i5⟩ := id hI
        obtain rfl : k = 32 := by omega
        obtain rfl : lo = hi := by omega
        refine lv_iload_n hx hb dRO_firstNotBelow_67 rfl (lv_at hl 2 rfl) ?_
        exact hret 68 ls lo hI dRO_firstNotBelow_68
      · obtain ⟨i1, i2, i3, i4, i5⟩ := id hI
        refine lv_iload_n hx hb dRO_firstNotBelow_17 rfl (lv_at hl 2 rfl) ?_
        refine lv_iload_n hx hb dRO_firstNotBelow_18 rfl (lv_at hl 3 rfl) ?_
        refine lz_icmp_ge (tgt := 67) hx hb dRO_firstNotBelow_19 (by decide) (by omega) (by omega) (fun c_19 => ?_) (fun c_19 => ?_)
        · obtain rfl : lo = hi := by omega
          refine lv_iload_n hx hb dRO_firstNotBelow_67 rfl (lv_at hl 2 rfl) ?_
          exact hret 68 ls lo hI dRO_firstNotBelow_68
        · refine lv_iload_n hx hb dRO_firstNotBelow_22 rfl (lv_at hl 2 rfl) ?_
          refine lv_iload_n hx hb dRO_firstNotBelow_23 rfl (lv_at hl 3 rfl) ?_
          refine lz_iadd hx hb dRO_firstNotBelow_24 ?_
          refine lv_iconst (v := iI (1)) hx hb dRO_firstNotBelow_25 rfl ?_
          refine lv_iushr (v := iI ((lo + hi) / 2)) hx hb dRO_firstNotBelow_26 (iI_ushr1 (by omega)) ?_
          refine lv_istore (lv' := [(5, .int (iI ((lo + hi) / 2))), (0, .ref r), (1, .int (iI x)), (2, .int (iI lo)), (3, .int (iI hi)), (4, .int (iI (k : Int)))]) hx hb dRO_firstNotBelow_27 hl (by decide) rfl (fun ls hl => ?_)
          refine lv_iload hx hb dRO_firstNotBelow_29 (lv_at hl 0 rfl) ?_
          refine lv_aload_n hx hb dRO_firstNotBelow_31 rfl (lv_at hl 1 rfl) ?_
          refine va_get (D := D) (ci := 5) (v := .ref a) (C := nRO) (T := fRO) (N := 2) hx hb hts iwRO hown hK hP 0 rfl rfl 0 (by decide) (hts _ (List.mem_cons_of_mem _ lkRO_21)) (fun _ h9 => h9) rfl dRO_firstNotBelow_32 ?_
          refine lz_alen hx hb hK hP 1 0 rfl rfl dRO_firstNotBelow_35 ?_
          refine lz_icmp_ge (tgt := 58) hx hb dRO_firstNotBelow_36 (by decide) (by omega) (by omega) (fun c_36 => ?_) (fun c_36 => ?_)
          · exact absurd c_36 (by omega)
          · refine lv_aload_n hx hb dRO_firstNotBelow_39 rfl (lv_at hl 1 rfl) ?_
            refine va_get (D := D) (ci := 5) (v := .ref a) (C := nRO) (T := fRO) (N := 2) hx hb hts iwRO hown hK hP 0 rfl rfl 0 (by decide) (hts _ (List.mem_cons_of_mem _ lkRO_21)) (fun _ h9 => h9) rfl dRO_firstNotBelow_40 ?_
            refine lv_iload hx hb dRO_firstNotBelow_43 (lv_at hl 0 rfl) ?_
            refine lz_iald hx hb hK hP 1 0 rfl rfl (z := (lo + hi) / 2) (by omega) dRO_firstNotBelow_45 ?_
            refine lv_iload_n hx hb dRO_firstNotBelow_46 rfl (lv_at hl 2 rfl) ?_
            refine lz_icmp_ge (tgt := 58) hx hb dRO_firstNotBelow_47 (by decide) (by rw [h.2.2.1 _ (by omega)]; have := h.rng (j := ((lo + hi) / 2).toNat) (by omega); omega) (by omega) (fun c_47 => ?_) (fun c_47 => ?_)
            · have hmx : x ≤ ks.getD ((lo + hi) / 2).toNat (-1) := by rw [← h.2.2.1 _ (by omega)]; exact c_47
              refine lv_iload hx hb dRO_firstNotBelow_58 (lv_at hl 0 rfl) ?_
              refine lv_istore_n (lv' := [(3, .int (iI ((lo + hi) / 2))), (5, .int (iI ((lo + hi) / 2))), (0, .ref r), (1, .int (iI x)), (2, .int (iI lo)), (4, .int (iI (k : Int)))]) hx hb dRO_firstNotBelow_60 rfl hl (by decide) rfl (fun ls hl => ?_)
              refine lz_iinc (lv' := [(4, .int (iI ((k : Int) + 1))), (3, .int (iI ((lo + hi) / 2))), (5, .int (iI ((lo + hi) / 2))), (0, .ref r), (1, .int (iI x)), (2, .int (iI lo))]) hx hb dRO_firstNotBelow_61 hl (k := 5) rfl (by decide) rfl (fun ls hl => ?_)
              refine lv_goto (tgt := 10) hx hb dRO_firstNotBelow_64 (by decide) ?_
              exact ih10 (k + 1) lo ((lo + hi) / 2) (hI.dn h.2.2.2.1 (mid := (lo + hi) / 2) (by omega) hmx) (show _ ≤ hbs k / 2 by omega) (by omega) (by omega) _ (lv_sub hl [3, 4, 5, 1, 0] rfl)
            · have hmx : ks.getD ((lo + hi) / 2).toNat (-1) < x := by rw [← h.2.2.1 _ (by omega)]; exact c_47
              refine lv_iload hx hb dRO_firstNotBelow_50 (lv_at hl 0 rfl) ?_
              refine lv_iconst (v := iI (1)) hx hb dRO_firstNotBelow_52 rfl ?_
              refine lz_iadd hx hb dRO_firstNotBelow_53 ?_
              refine lv_istore_n (lv' := [(2, .int (iI (((lo + hi) / 2) + 1))), (5, .int (iI ((lo + hi) / 2))), (0, .ref r), (1, .int (iI x)), (3, .int (iI hi)), (4, .int (iI (k : Int)))]) hx hb dRO_firstNotBelow_54 rfl hl (by decide) rfl (fun ls hl => ?_)
              refine lv_goto (tgt := 61) hx hb dRO_firstNotBelow_55 (by decide) ?_
              refine lz_iinc (lv' := [(4, .int (iI ((k : Int) + 1))), (2, .int (iI (((lo + hi) / 2) + 1))), (5, .int (iI ((lo + hi) / 2))), (0, .ref r), (1, .int (iI x)), (3, .int (iI hi))]) hx hb dRO_firstNotBelow_61 hl (k := 5) rfl (by decide) rfl (fun ls hl => ?_)
              refine lv_goto (tgt := 10) hx hb dRO_firstNotBelow_64 (by decide) ?_
              exact ih10 (k + 1) (((lo + hi) / 2) + 1) hi (hI.up h.2.2.2.1 (mid := (lo + hi) / 2) (by omega) hmx) (show _ ≤ hbs k / 2 by omega) (by omega) (by omega) _ (lv_sub hl [3, 4, 1, 5, 0] rfl)
  exact lp10 _ 0 0 (ks.length : Int) ⟨by omega, by omega, by omega, fun j hj => by omega, fun j hj hl2 => by omega⟩ (show (ks.length : Int) - 0 ≤ 1024 by omega) (by omega) (Nat.lt_succ_self _) _ (lv_sub hl [3, 4, 2, 1, 0] rfl)

def rmRO_indexOf : Room := { frames := 1, cells := 0, slots := 0, locals := 25 }
set_option maxHeartbeats 4000000 in
set_option maxRecDepth 100000 in
theorem mRO_indexOf (l : Launch) (D : va_G) (cI cG : ClassId) (r a n : Nat) (f : Nat → Int) (ks : List Int) (x : Int) (h : rowOK n f ks) (hx1 : -2147483648 ≤ x ∧ x < 2147483648) : zRI l yRO_indexOf wRO_indexOf rmRO_indexOf D vwCl (zT cI cG) [.ref r, .int (iI x)] [(r, .inr (5, [.ref a, .int (iI (ks.length : Int))])), (a, .inl (cI, n, .inl (zf f)))] (fun z => lix ks x z) := by
  refine zRI.of (cc := cRO_indexOf) (maxL := 3) (rt := .int) (by decide) rfl (Nat.le_of_ble_eq_true rfl) (fun _ _ => rfl) ?_
  intro p e s m args below meth c ls Q hx hb hml hown hts hK hP hX hl hret
  have hS0 : va_S (fun _ => False) s.heap s.heap [] := va_S.rf
  have hl : lv_has ls 3 [(0, .ref r), (1, .int (iI x))] := hl
  have hb1 := h.1
  have hb2 := h.2.1
  refine lv_aload_n hx hb dRO_indexOf_0 rfl (lv_at hl 0 rfl) ?_
  refine lv_iload_n hx hb dRO_indexOf_1 rfl (lv_at hl 1 rfl) ?_
  refine zRI.back ((va_runV (As := [.int (iI x)]) (rest := []) ⟨hx, hb, hml, hown, hts⟩ (mRO_firstNotBelow l D cI cG r a n f ks x h hx1) (cwV 1 hts (gT1 lkRO_29 (gT1 imRO_firstNotBelow (gT1 seRO_firstNotBelow (gT1 iniRO (gTW kcRO_firstNotBelow))))) rfl rfl rfl (by decide +kernel) ⟨Nat.le_of_ble_eq_true rfl, Nat.le_of_ble_eq_true rfl⟩) ⟨zRd_blind, va_recv hK hP (ci := 5) (q0 := 0) rfl rfl, zRd.at (wc := [(r, .inr (5, [.ref a, .int (iI (ks.length : Int))])), (a, .inl (cI, n, .inl (zf f)))]) hK (hP.sub (ws' := [(r, .inr (5, [.ref a, .int (iI (ks.length : Int))])), (a, .inl (cI, n, .inl (zf f)))]) [0, 1] rfl) hX⟩ rfl rfl hl.1 rfl (lv_room (Nat.le_of_ble_eq_true rfl)) dRO_indexOf_2 ⟨Nat.le_of_ble_eq_true rfl, Nat.le_of_ble_eq_true rfl⟩).run) (fun z_2 q_2 => ?_)
  have q_2 : fnb ks x z_2 := q_2
  obtain ⟨j1, j2, j3, j4, j5⟩ := id q_2
  refine lv_istore_n (lv' := [(2, .int (iI z_2)), (0, .ref r), (1, .int (iI x))]) hx hb dRO_indexOf_5 rfl hl (by decide) rfl (fun ls hl => ?_)
  refine lv_iload_n hx hb dRO_indexOf_6 rfl (lv_at hl 2 rfl) ?_
  refine lz_if_lt (tgt := 23) hx hb dRO_indexOf_7 (by decide) (by omega) (fun c_7 => ?_) (fun c_7 => ?_)
  · refine lv_iconst (v := iI (-1)) hx hb dRO_indexOf_23 rfl ?_
    exact hret 24 ls (-1) (Or.inr ⟨by first | exact (fun q => c_16 ((fnb.mem q_2 h.2.2.2.1 c_7).mpr q)) | exact (fun q => by have := h.2.2.2.2 x q; omega), rfl⟩) dRO_indexOf_24
  · refine lv_aload_n hx hb dRO_indexOf_10 rfl (lv_at hl 1 rfl) ?_
    refine lv_iload_n hx hb dRO_indexOf_11 rfl (lv_at hl 0 rfl) ?_
    refine zRI.back ((va_runV (As := [.int (iI z_2)]) (rest := []) ⟨hx, hb, hml, hown, hts⟩ (mRO_at l D cI cG r a n f ks z_2 h (by omega)) (cwV 1 hts (gT1 lkRO_32 (gT1 imRO_at (gT1 seRO_at (gT1 iniRO (gTW kcRO_at))))) rfl rfl rfl (by decide +kernel) ⟨Nat.le_of_ble_eq_true rfl, Nat.le_of_ble_eq_true rfl⟩) ⟨zRd_blind, va_recv hK hP (ci := 5) (q0 := 0) rfl rfl, zRd.at (wc := [(r, .inr (5, [.ref a, .int (iI (ks.length : Int))])), (a, .inl (cI, n, .inl (zf f)))]) hK (hP.sub (ws' := [(r, .inr (5, [.ref a, .int (iI (ks.length : Int))])), (a, .inl (cI, n, .inl (zf f)))]) [0, 1] rfl) hX⟩ rfl rfl hl.1 rfl (lv_room (Nat.le_of_ble_eq_true rfl)) dRO_indexOf_12 ⟨Nat.le_of_ble_eq_true rfl, Nat.le_of_ble_eq_true rfl⟩).run) (fun z_12 q_12 => ?_)
    obtain rfl : z_12 = lat ks z_2 := q_12
    refine lv_iload_n hx hb dRO_indexOf_15 rfl (lv_at hl 2 rfl) ?_
    refine lz_icmp_ne (tgt := 23) hx hb dRO_indexOf_16 (by decide) (by have := h.latr z_2; omega) (by omega) (fun c_16 => ?_) (fun c_16 => ?_)
    · refine lv_iconst (v := iI (-1)) hx hb dRO_indexOf_23 rfl ?_
      exact hret 24 ls (-1) (Or.inr ⟨by first | exact (fun q => c_16 ((fnb.mem q_2 h.2.2.2.1 c_7).mpr q)) | exact (fun q => by have := h.2.2.2.2 x q; omega), rfl⟩) dRO_indexOf_24
    · refine lv_iload_n hx hb dRO_indexOf_19 rfl (lv_at hl 0 rfl) ?_
      refine lv_goto (tgt := 24) hx hb dRO_indexOf_20 (by decide) ?_
      exact hret 24 ls z_2 (by
            have hm := (fnb.mem q_2 h.2.2.2.1 c_7).mp c_16
            have hz : z_2 < ks.length := by
              by_cases q : z_2 < ks.length
              · exact q
              · rw [lat_out (by omega)] at c_16; omega
            exact Or.inl ⟨hm, j1, hz, by rw [← (lat_in j1 hz).1]; exact c_16⟩) dRO_indexOf_24

def rmRO_has : Room := { frames := 2, cells := 0, slots := 0, locals := 47 }
set_option maxHeartbeats 4000000 in
set_option maxRecDepth 100000 in
theorem mRO_has (l : Launch) (D : va_G) (cI cG : ClassId) (r a n : Nat) (f : Nat → Int) (ks : List Int) (x : Int) (h : rowOK n f ks) (hx1 : -2147483648 ≤ x ∧ x < 2147483648) : zRI l yRO_has wRO_has rmRO_has D vwCl (zT cI cG) [.ref r, .int (iI x)] [(r, .inr (5, [.ref a, .int (iI (ks.length : Int))])), (a, .inl (cI, n, .inl (zf f)))] (fun z => (z = 1 ∧ x ∈ ks) ∨ (z = 0 ∧ x ∉ ks)) := by
  refine zRI.of (cc := cRO_has) (maxL := 2) (rt := .boolean) (by decide) rfl (Nat.le_of_ble_eq_true rfl) (fun z h => by rcases h with ⟨rfl, _⟩ | ⟨rfl, _⟩ <;> decide) ?_
  intro p e s m args below meth c ls Q hx hb hml hown hts hK hP hX hl hret
  have hS0 : va_S (fun _ => False) s.heap s.heap [] := va_S.rf
  have hl : lv_has ls 2 [(0, .ref r), (1, .int (iI x))] := hl
  have hb1 := h.1
  have hb2 := h.2.1
  refine lv_aload_n hx hb dRO_has_0 rfl (lv_at hl 0 rfl) ?_
  refine lv_iload_n hx hb dRO_has_1 rfl (lv_at hl 1 rfl) ?_
  refine zRI.back ((va_runV (As := [.int (iI x)]) (rest := []) ⟨hx, hb, hml, hown, hts⟩ (mRO_indexOf l D cI cG r a n f ks x h hx1) (cwV 1 hts (gT1 lkRO_25 (gT1 imRO_indexOf (gT1 seRO_indexOf (gT1 iniRO (gTW kcRO_indexOf))))) rfl rfl rfl (by decide +kernel) ⟨Nat.le_of_ble_eq_true rfl, Nat.le_of_ble_eq_true rfl⟩) ⟨zRd_blind, va_recv hK hP (ci := 5) (q0 := 0) rfl rfl, zRd.at (wc := [(r, .inr (5, [.ref a, .int (iI (ks.length : Int))])), (a, .inl (cI, n, .inl (zf f)))]) hK (hP.sub (ws' := [(r, .inr (5, [.ref a, .int (iI (ks.length : Int))])), (a, .inl (cI, n, .inl (zf f)))]) [0, 1] rfl) hX⟩ rfl rfl hl.1 rfl (lv_room (Nat.le_of_ble_eq_true rfl)) dRO_has_2 ⟨Nat.le_of_ble_eq_true rfl, Nat.le_of_ble_eq_true rfl⟩).run) (fun z_2 q_2 => ?_)
  have q_2 : lix ks x z_2 := q_2
  have hz : -1 ≤ z_2 ∧ z_2 < 2147483648 := by rcases q_2 with ⟨_, _, _, _⟩ | ⟨_, _⟩ <;> omega
  refine lv_iconst (v := iI (-1)) hx hb dRO_has_5 rfl ?_
  refine lz_icmp_eq (tgt := 13) hx hb dRO_has_6 (by decide) (by omega) (by omega) (fun c_6 => ?_) (fun c_6 => ?_)
  · refine lv_iconst (v := iI (0)) hx hb dRO_has_13 rfl ?_
    exact hret 14 ls 0 (by
          rcases q_2 with ⟨q, _, _, _⟩ | ⟨q, e⟩
          · omega
          · exact Or.inr ⟨rfl, q⟩) dRO_has_14
  · refine lv_iconst (v := iI (1)) hx hb dRO_has_9 rfl ?_
    refine lv_goto (tgt := 14) hx hb dRO_has_10 (by decide) ?_
    exact hret 14 ls 1 (by
          rcases q_2 with ⟨q, _, _, _⟩ | ⟨q, e⟩
          · exact Or.inl ⟨rfl, q⟩
          · exact absurd e c_6) dRO_has_14

def rmRO_add : Room := { frames := 1, cells := 0, slots := 0, locals := 60 }
set_option maxHeartbeats 4000000 in
set_option maxRecDepth 100000 in
theorem mRO_add (l : Launch) (D : va_G) (cI cG : ClassId) (r a n : Nat) (f : Nat → Int) (ks : List Int) (x : Int) (h : rowOK n f ks) (hx1 : 0 ≤ x ∧ x < 2147483648) : zI l yRO_add wRO_add rmRO_add D vwCl (zT cI cG) [.ref r, .int (iI x)] [(r, .inr (5, [.ref a, .int (iI (ks.length : Int))])), (a, .inl (cI, n, .inl (zf f)))] (S := (Int × (Nat → Int))) (fun z u => ∃ ks2, rowOK n u.2 ks2 ∧ u.1 = (ks2.length : Int) ∧ ((z = 1 ∧ x ∈ ks ∧ ks2 = ks) ∨ (z = 0 ∧ x ∉ ks ∧ ks.length = n ∧ ks2 = ks) ∨ (z = 1 ∧ x ∉ ks ∧ ks.length < n ∧ rowIns ks ks2 x))) (fun u => [(r, .inr (5, [.ref a, .int (iI u.1)])), (a, .inl (cI, n, .inl (zf u.2)))]) := by
  refine zI.of (cc := cRO_add) (maxL := 3) (rt := .boolean) (by decide) rfl (Nat.le_of_ble_eq_true rfl) (fun z u h => by obtain ⟨_, _, _, q⟩ := h; rcases q with ⟨rfl, _⟩ | ⟨rfl, _⟩ | ⟨rfl, _⟩ <;> decide) ?_
  intro p e s m args below meth c A ls Q hx hb hml hown hts hnm hK hD hA hAe hX hl hret H locs hP hS
  have hl : lv_has ls 3 [(0, .ref r), (1, .int (iI x))] := hl
  have hb1 := h.1
  have hb2 := h.2.1
  have hx2 : -2147483648 ≤ x ∧ x < 2147483648 := by omega
  refine lv_aload_n hx hb dRO_add_0 rfl (lv_at hl 0 rfl) ?_
  refine lv_iload_n hx hb dRO_add_1 rfl (lv_at hl 1 rfl) ?_
  refine zRI.back ((va_runV (As := [.int (iI x)]) (rest := []) ⟨hx, hb, hml, hown, hts⟩ (mRO_firstNotBelow l D cI cG r a n f ks x h hx2) (cwV 1 hts (gT1 lkRO_29 (gT1 imRO_firstNotBelow (gT1 seRO_firstNotBelow (gT1 iniRO (gTW kcRO_firstNotBelow))))) rfl rfl rfl (by decide +kernel) ⟨Nat.le_of_ble_eq_true rfl, Nat.le_of_ble_eq_true rfl⟩) ⟨zRd_blind, va_recv hK hP (ci := 5) (q0 := 0) rfl rfl, zRd.at (wc := [(r, .inr (5, [.ref a, .int (iI (ks.length : Int))])), (a, .inl (cI, n, .inl (zf f)))]) hK (hP.sub (ws' := [(r, .inr (5, [.ref a, .int (iI (ks.length : Int))])), (a, .inl (cI, n, .inl (zf f)))]) [0, 1] rfl) (stF.now hX hS)⟩ rfl rfl hl.1 rfl (lv_room (Nat.le_of_ble_eq_true rfl)) dRO_add_2 ⟨Nat.le_of_ble_eq_true rfl, Nat.le_of_ble_eq_true rfl⟩).run) (fun z_2 q_2 => ?_)
  have q_2 : fnb ks x z_2 := q_2
  obtain ⟨j1, j2, j3, j4, j5⟩ := id q_2
  refine lv_istore_n (lv' := [(2, .int (iI z_2)), (0, .ref r), (1, .int (iI x))]) hx hb dRO_add_5 rfl hl (by decide) rfl (fun ls hl => ?_)
  refine lv_aload_n hx hb dRO_add_6 rfl (lv_at hl 1 rfl) ?_
  refine lv_iload_n hx hb dRO_add_7 rfl (lv_at hl 0 rfl) ?_
  refine zRI.back ((va_runV (As := [.int (iI z_2)]) (rest := []) ⟨hx, hb, hml, hown, hts⟩ (mRO_at l D cI cG r a n f ks z_2 h (by omega)) (cwV 1 hts (gT1 lkRO_32 (gT1 imRO_at (gT1 seRO_at (gT1 iniRO (gTW kcRO_at))))) rfl rfl rfl (by decide +kernel) ⟨Nat.le_of_ble_eq_true rfl, Nat.le_of_ble_eq_true rfl⟩) ⟨zRd_blind, va_recv hK hP (ci := 5) (q0 := 0) rfl rfl, zRd.at (wc := [(r, .inr (5, [.ref a, .int (iI (ks.length : Int))])), (a, .inl (cI, n, .inl (zf f)))]) hK (hP.sub (ws' := [(r, .inr (5, [.ref a, .int (iI (ks.length : Int))])), (a, .inl (cI, n, .inl (zf f)))]) [0, 1] rfl) (stF.now hX hS)⟩ rfl rfl hl.1 rfl (lv_room (Nat.le_of_ble_eq_true rfl)) dRO_add_8 ⟨Nat.le_of_ble_eq_true rfl, Nat.le_of_ble_eq_true rfl⟩).run) (fun z_8 q_8 => ?_)
  obtain rfl : z_8 = lat ks z_2 := q_8
  refine lv_iload_n hx hb dRO_add_11 rfl (lv_at hl 2 rfl) ?_
  refine lz_icmp_ne (tgt := 17) hx hb dRO_add_12 (by decide) (by have := h.latr z_2; omega) (by omega) (fun c_12 => ?_) (fun c_12 => ?_)
  · have hmm : x ∉ ks := fun q => c_12 ((fnb.mem q_2 h.2.2.2.1 (by omega)).mpr q)
    refine lv_iload_n hx hb dRO_add_17 rfl (lv_at hl 2 rfl) ?_
    refine lz_if_lt (tgt := 45) hx hb dRO_add_18 (by decide) (by omega) (fun c_18 => ?_) (fun c_18 => ?_)
    · exact absurd c_18 (by omega)
    · refine lv_iload_n hx hb dRO_add_21 rfl (lv_at hl 0 rfl) ?_
      refine lz_if_lt (tgt := 45) hx hb dRO_add_22 (by decide) (by omega) (fun c_22 => ?_) (fun c_22 => ?_)
      · exact absurd c_22 (by omega)
      · refine lv_iload_n hx hb dRO_add_25 rfl (lv_at hl 0 rfl) ?_
        refine lv_aload_n hx hb dRO_add_26 rfl (lv_at hl 1 rfl) ?_
        refine va_get (D := D) (ci := 5) (v := .int (iI (ks.length : Int))) (C := nRO) (T := fRO) (N := 2) hx hb hts iwRO hown hK hP 0 rfl rfl 1 (by decide) (hts _ (List.mem_cons_of_mem _ lkRO_9)) (fun _ h9 => h9) rfl dRO_add_27 ?_
        refine lz_icmp_gt (tgt := 45) hx hb dRO_add_30 (by decide) (by omega) (by omega) (fun c_30 => ?_) (fun c_30 => ?_)
        · exact absurd c_30 (by omega)
        · refine lv_aload_n hx hb dRO_add_33 rfl (lv_at hl 1 rfl) ?_
          refine va_get (D := D) (ci := 5) (v := .int (iI (ks.length : Int))) (C := nRO) (T := fRO) (N := 2) hx hb hts iwRO hown hK hP 0 rfl rfl 1 (by decide) (hts _ (List.mem_cons_of_mem _ lkRO_9)) (fun _ h9 => h9) rfl dRO_add_34 ?_
          refine lv_aload_n hx hb dRO_add_37 rfl (lv_at hl 1 rfl) ?_
          refine va_get (D := D) (ci := 5) (v := .ref a) (C := nRO) (T := fRO) (N := 2) hx hb hts iwRO hown hK hP 0 rfl rfl 0 (by decide) (hts _ (List.mem_cons_of_mem _ lkRO_21)) (fun _ h9 => h9) rfl dRO_add_38 ?_
          refine lz_alen hx hb hK hP 1 0 rfl rfl dRO_add_41 ?_
          refine lz_icmp_lt (tgt := 47) hx hb dRO_add_42 (by decide) (by omega) (by omega) (fun c_42 => ?_) (fun c_42 => ?_)
          · refine lv_aload_n hx hb dRO_add_47 rfl (lv_at hl 1 rfl) ?_
            refine va_get (D := D) (ci := 5) (v := .ref a) (C := nRO) (T := fRO) (N := 2) hx hb hts iwRO hown hK hP 0 rfl rfl 0 (by decide) (hts _ (List.mem_cons_of_mem _ lkRO_21)) (fun _ h9 => h9) rfl dRO_add_48 ?_
            refine lv_iload_n hx hb dRO_add_51 rfl (lv_at hl 0 rfl) ?_
            refine lv_aload_n hx hb dRO_add_52 rfl (lv_at hl 1 rfl) ?_
            refine va_get (D := D) (ci := 5) (v := .ref a) (C := nRO) (T := fRO) (N := 2) hx hb hts iwRO hown hK hP 0 rfl rfl 0 (by decide) (hts _ (List.mem_cons_of_mem _ lkRO_21)) (fun _ h9 => h9) rfl dRO_add_53 ?_
            refine lv_iload_n hx hb dRO_add_56 rfl (lv_at hl 0 rfl) ?_
            refine lv_iconst (v := iI (1)) hx hb dRO_add_57 rfl ?_
            refine lz_iadd hx hb dRO_add_58 ?_
            refine lv_aload_n hx hb dRO_add_59 rfl (lv_at hl 1 rfl) ?_
            refine va_get (D := D) (ci := 5) (v := .int (iI (ks.length : Int))) (C := nRO) (T := fRO) (N := 2) hx hb hts iwRO hown hK hP 0 rfl rfl 1 (by decide) (hts _ (List.mem_cons_of_mem _ lkRO_9)) (fun _ h9 => h9) rfl dRO_add_60 ?_
            refine lv_iload_n hx hb dRO_add_63 rfl (lv_at hl 0 rfl) ?_
            refine lz_isub hx hb dRO_add_64 ?_
            refine lz_copy hx hb (by rw [hml]; exact hl.1.symm) hown (hts _ (List.mem_cons_of_mem _ lkRO_35)) (hts _ (List.mem_cons_of_mem _ nvJS_arraycopy)) (hts _ (List.mem_cons_of_mem _ smJS_arraycopy)) (hts _ (List.mem_cons_of_mem _ iniJS)) hK hP hD hS 1 0 rfl rfl (by omega) (by omega) (by omega) (by omega) (by omega) (by omega) (Nat.le_of_ble_eq_true rfl) (Nat.le_of_ble_eq_true rfl) dRO_add_65 (fun H locs hP hD hS => ?_)
            have hP : va_P D vwCl [(r, .inr (5, [.ref a, .int (iI (ks.length : Int))])), (a, .inl (cI, n, .inl (zf (va_cpy f f (z_2).toNat (z_2 + 1).toNat ((ks.length : Int) - z_2).toNat))))] H := hP
            have hD : va_D A [(r, .inr (5, [.ref a, .int (iI (ks.length : Int))])), (a, .inl (cI, n, .inl (zf (va_cpy f f (z_2).toNat (z_2 + 1).toNat ((ks.length : Int) - z_2).toNat))))] := hD
            refine lv_aload_n hx hb dRO_add_68 rfl (lv_at hl 1 rfl) ?_
            refine va_get (D := D) (ci := 5) (v := .ref a) (C := nRO) (T := fRO) (N := 2) hx hb hts iwRO hown hK hP 0 rfl rfl 0 (by decide) (hts _ (List.mem_cons_of_mem _ lkRO_21)) (fun _ h9 => h9) rfl dRO_add_69 ?_
            refine lv_iload_n hx hb dRO_add_72 rfl (lv_at hl 0 rfl) ?_
            refine lv_iload_n hx hb dRO_add_73 rfl (lv_at hl 2 rfl) ?_
            refine lz_iast hx hb hK hP hD hS 1 0 rfl rfl (z := z_2) (v := x) (by omega) dRO_add_74 (fun H locs hP hD hS => ?_)
            have hP : va_P D vwCl [(r, .inr (5, [.ref a, .int (iI (ks.length : Int))])), (a, .inl (cI, n, .inl (zf (zu (va_cpy f f (z_2).toNat (z_2 + 1).toNat ((ks.length : Int) - z_2).toNat) (z_2).toNat x))))] H := hP
            have hD : va_D A [(r, .inr (5, [.ref a, .int (iI (ks.length : Int))])), (a, .inl (cI, n, .inl (zf (zu (va_cpy f f (z_2).toNat (z_2 + 1).toNat ((ks.length : Int) - z_2).toNat) (z_2).toNat x))))] := hD
            refine lv_aload_n hx hb dRO_add_75 rfl (lv_at hl 1 rfl) ?_
            refine lv_dup hx hb dRO_add_76 rfl ?_
            refine va_get (D := D) (ci := 5) (v := .int (iI (ks.length : Int))) (C := nRO) (T := fRO) (N := 2) hx hb hts iwRO hown hK hP 0 rfl rfl 1 (by decide) (hts _ (List.mem_cons_of_mem _ lkRO_9)) (fun _ h9 => h9) rfl dRO_add_77 ?_
            refine lv_iconst (v := iI (1)) hx hb dRO_add_80 rfl ?_
            refine lz_iadd hx hb dRO_add_81 ?_
            refine va_put (D := D) (ci := 5) (v := .int (iI ((ks.length : Int) + 1))) (ty := .int) (C := nRO) (T := fRO) (N := 2) hx hb hts iwRO tRO tkRO nmRO hown hK hP hD hS 0 rfl rfl 1 (by decide) (hts _ (List.mem_cons_of_mem _ lkRO_9)) (fun _ h9 => h9) rfl (by decide +kernel) rfl rfl (Nat.le_of_ble_eq_true rfl) dRO_add_82 (fun H locs hP hD hS => ?_)
            have hP : va_P D vwCl [(r, .inr (5, [.ref a, .int (iI ((ks.length : Int) + 1))])), (a, .inl (cI, n, .inl (zf (zu (va_cpy f f (z_2).toNat (z_2 + 1).toNat ((ks.length : Int) - z_2).toNat) (z_2).toNat x))))] H := hP
            have hD : va_D A [(r, .inr (5, [.ref a, .int (iI ((ks.length : Int) + 1))])), (a, .inl (cI, n, .inl (zf (zu (va_cpy f f (z_2).toNat (z_2 + 1).toNat ((ks.length : Int) - z_2).toNat) (z_2).toNat x))))] := hD
            refine lv_iconst (v := iI (1)) hx hb dRO_add_85 rfl ?_
            obtain ⟨ks2, ho, hi2⟩ := h.ins (g := zu (va_cpy f f z_2.toNat (z_2 + 1).toNat ((ks.length : Int) - z_2).toNat) z_2.toNat x) q_2 hx1 hmm (by omega) (fun j hj => by
              unfold zu va_cpy
              by_cases g1 : (j : Int) < z_2
              · rw [if_pos g1, if_neg (by omega), if_neg (by omega)]
              · by_cases g2 : (j : Int) = z_2
                · rw [if_neg g1, if_pos g2, if_pos (by omega)]
                · rw [if_neg g1, if_neg g2, if_neg (by omega), if_pos (by omega)]
                  congr 1
                  omega)
            exact hret H locs 0 0 86 ls 1 ((ks.length : Int) + 1, zu (va_cpy f f z_2.toNat (z_2 + 1).toNat ((ks.length : Int) - z_2).toNat) z_2.toNat x) ⟨ks2, ho, by have := hi2.2; show (ks.length : Int) + 1 = _; omega, Or.inr (Or.inr ⟨rfl, hmm, by omega, hi2⟩)⟩ (hP.sub [0, 1] rfl) (hD.sub [0, 1] (by decide) rfl) hS (Nat.zero_le _) (Nat.zero_le _) dRO_add_86
          · refine lv_iconst (v := iI (0)) hx hb dRO_add_45 rfl ?_
            exact hret H locs 0 0 46 ls 0 ((ks.length : Int), f) ⟨ks, h, rfl, Or.inr (Or.inl ⟨rfl, hmm, by omega, rfl⟩)⟩ (hP.sub [0, 1] rfl) (hD.sub [0, 1] (by decide) rfl) hS (Nat.zero_le _) (Nat.zero_le _) dRO_add_46
  · have hmm := (fnb.mem q_2 h.2.2.2.1 (by omega)).mp c_12
    refine lv_iconst (v := iI (1)) hx hb dRO_add_15 rfl ?_
    exact hret H locs 0 0 16 ls 1 ((ks.length : Int), f) ⟨ks, h, rfl, Or.inl ⟨rfl, hmm, rfl⟩⟩ (hP.sub [0, 1] rfl) (hD.sub [0, 1] (by decide) rfl) hS (Nat.zero_le _) (Nat.zero_le _) dRO_add_16

def rmRO_isLike : Room := { frames := 1, cells := 0, slots := 0, locals := 21 }
set_option maxHeartbeats 4000000 in
set_option maxRecDepth 100000 in
theorem mRO_isLike (l : Launch) (D : va_G) (cI cG : ClassId) (r a n : Nat) (f : Nat → Int) (ks : List Int) (r2 a2 n2 : Nat) (f2 : Nat → Int) (ks2 : List Int) (h : rowOK n f ks) (h2 : rowOK n2 f2 ks2) : zRI l yRO_isLike wRO_isLike rmRO_isLike D vwCl (zT cI cG) [.ref r, .ref r2] [(r, .inr (5, [.ref a, .int (iI (ks.length : Int))])), (a, .inl (cI, n, .inl (zf f))), (r2, .inr (5, [.ref a2, .int (iI (ks2.length : Int))])), (a2, .inl (cI, n2, .inl (zf f2)))] (fun z => (z = 1 ∧ ks = ks2) ∨ (z = 0 ∧ ks ≠ ks2)) := by
  refine zRI.of (cc := cRO_isLike) (maxL := 3) (rt := .boolean) (by decide) rfl (Nat.le_of_ble_eq_true rfl) (fun z h => by rcases h with ⟨rfl, _⟩ | ⟨rfl, _⟩ <;> decide) ?_
  intro p e s m args below meth c ls Q hx hb hml hown hts hK hP hX hl hret
  have hS0 : va_S (fun _ => False) s.heap s.heap [] := va_S.rf
  have hl : lv_has ls 3 [(0, .ref r), (1, .ref r2)] := hl
  have hb1 := h.1
  have hb2 := h.2.1
  have hb3 := h2.1
  have hb4 := h2.2.1
  refine lv_aload_n hx hb dRO_isLike_0 rfl (lv_at hl 0 rfl) ?_
  refine va_get (D := D) (ci := 5) (v := .int (iI (ks.length : Int))) (C := nRO) (T := fRO) (N := 2) hx hb hts iwRO hown hK hP 0 rfl rfl 1 (by decide) (hts _ (List.mem_cons_of_mem _ lkRO_9)) (fun _ h9 => h9) rfl dRO_isLike_1 ?_
  refine lv_aload_n hx hb dRO_isLike_4 rfl (lv_at hl 1 rfl) ?_
  refine va_get (D := D) (ci := 5) (v := .int (iI (ks2.length : Int))) (C := nRO) (T := fRO) (N := 2) hx hb hts iwRO hown hK hP 2 rfl rfl 1 (by decide) (hts _ (List.mem_cons_of_mem _ lkRO_9)) (fun _ h9 => h9) rfl dRO_isLike_5 ?_
  refine lz_icmp_eq (tgt := 13) hx hb dRO_isLike_8 (by decide) (by omega) (by omega) (fun c_8 => ?_) (fun c_8 => ?_)
  · have hle : ks.length = ks2.length := by omega
    refine lv_iconst (v := iI (0)) hx hb dRO_isLike_13 rfl ?_
    refine lv_istore_n (lv' := [(2, .int (iI 0)), (0, .ref r), (1, .ref r2)]) hx hb dRO_isLike_14 rfl hl (by decide) rfl (fun ls hl => ?_)
    have lp15 : ∀ (n9 : Nat) (k : Nat), (k ≤ ks.length) → (∀ j, j < k → ks.getD j (-1) = ks2.getD j (-1)) → (ks.length - k) < n9 → ∀ (ls : Array Slot), lv_has ls 3 [(0, .ref r), (1, .ref r2), (2, .int (iI (k : Int)))] → W p l e (headSpec wRO_isLike rmRO_isLike).room s m args below meth c s.heap [] 0 0 Q (F0 m 15 ls []) := by
      intro n9
      induction n9 with
      | zero => intro k hk hI hm; exact absurd hm (Nat.not_lt_zero _)
      | succ n9 ih15 =>
        intro k hk hI hm15 ls hl
        refine lv_iload_n hx hb dRO_isLike_15 rfl (lv_at hl 2 rfl) ?_
        refine lv_aload_n hx hb dRO_isLike_16 rfl (lv_at hl 0 rfl) ?_
        refine va_get (D := D) (ci := 5) (v := .int (iI (ks.length : Int))) (C := nRO) (T := fRO) (N := 2) hx hb hts iwRO hown hK hP 0 rfl rfl 1 (by decide) (hts _ (List.mem_cons_of_mem _ lkRO_9)) (fun _ h9 => h9) rfl dRO_isLike_17 ?_
        refine lz_icmp_ge (tgt := 44) hx hb dRO_isLike_20 (by decide) (by omega) (by omega) (fun c_20 => ?_) (fun c_20 => ?_)
        · refine lv_iconst (v := iI (1)) hx hb dRO_isLike_44 rfl ?_
          exact hret 45 ls 1 (Or.inl ⟨rfl, list_eq_getD hle (fun j hj => hI j (by omega))⟩) dRO_isLike_45
        · refine lv_aload_n hx hb dRO_isLike_23 rfl (lv_at hl 0 rfl) ?_
          refine lv_iload_n hx hb dRO_isLike_24 rfl (lv_at hl 2 rfl) ?_
          refine zRI.back ((va_runV (As := [.int (iI (k : Int))]) (rest := []) ⟨hx, hb, hml, hown, hts⟩ (mRO_at l D cI cG r a n f ks (k : Int) h (by omega)) (cwV 1 hts (gT1 lkRO_32 (gT1 imRO_at (gT1 seRO_at (gT1 iniRO (gTW kcRO_at))))) rfl rfl rfl (by decide +kernel) ⟨Nat.le_of_ble_eq_true rfl, Nat.le_of_ble_eq_true rfl⟩) ⟨zRd_blind, va_recv hK hP (ci := 5) (q0 := 0) rfl rfl, zRd.at (wc := [(r, .inr (5, [.ref a, .int (iI (ks.length : Int))])), (a, .inl (cI, n, .inl (zf f)))]) hK (hP.sub (ws' := [(r, .inr (5, [.ref a, .int (iI (ks.length : Int))])), (a, .inl (cI, n, .inl (zf f)))]) [0, 1] rfl) hX⟩ rfl rfl hl.1 rfl (lv_room (Nat.le_of_ble_eq_true rfl)) dRO_isLike_25 ⟨Nat.le_of_ble_eq_true rfl, Nat.le_of_ble_eq_true rfl⟩).run) (fun z_25 q_25 => ?_)
          obtain rfl : z_25 = lat ks (k : Int) := q_25
          refine lv_aload_n hx hb dRO_isLike_28 rfl (lv_at hl 1 rfl) ?_
          refine lv_iload_n hx hb dRO_isLike_29 rfl (lv_at hl 2 rfl) ?_
          refine zRI.back ((va_runV (As := [.int (iI (k : Int))]) (rest := [.int (iI (lat ks (k : Int)))]) ⟨hx, hb, hml, hown, hts⟩ (mRO_at l D cI cG r2 a2 n2 f2 ks2 (k : Int) h2 (by omega)) (cwV 1 hts (gT1 lkRO_32 (gT1 imRO_at (gT1 seRO_at (gT1 iniRO (gTW kcRO_at))))) rfl rfl rfl (by decide +kernel) ⟨Nat.le_of_ble_eq_true rfl, Nat.le_of_ble_eq_true rfl⟩) ⟨zRd_blind, va_recv hK hP (ci := 5) (q0 := 2) rfl rfl, zRd.at (wc := [(r2, .inr (5, [.ref a2, .int (iI (ks2.length : Int))])), (a2, .inl (cI, n2, .inl (zf f2)))]) hK (hP.sub (ws' := [(r2, .inr (5, [.ref a2, .int (iI (ks2.length : Int))])), (a2, .inl (cI, n2, .inl (zf f2)))]) [2, 3] rfl) hX⟩ rfl rfl hl.1 rfl (lv_room (Nat.le_of_ble_eq_true rfl)) dRO_isLike_30 ⟨Nat.le_of_ble_eq_true rfl, Nat.le_of_ble_eq_true rfl⟩).run) (fun z_30 q_30 => ?_)
          obtain rfl : z_30 = lat ks2 (k : Int) := q_30
          refine lz_icmp_eq (tgt := 38) hx hb dRO_isLike_33 (by decide) (by have := h.latr (k : Int); omega) (by have := h2.latr (k : Int); omega) (fun c_33 => ?_) (fun c_33 => ?_)
          · refine lz_iinc (lv' := [(2, .int (iI ((k : Int) + 1))), (0, .ref r), (1, .ref r2)]) hx hb dRO_isLike_38 hl (k := 2) rfl (by decide) rfl (fun ls hl => ?_)
            refine lv_goto (tgt := 15) hx hb dRO_isLike_41 (by decide) ?_
            exact ih15 (k + 1) (by omega) (fun j hj => by
                rcases Nat.lt_or_ge j k with q | q
                · exact hI j q
                · obtain rfl : j = k := by omega
                  have c33 : lat ks (j : Int) = lat ks2 (j : Int) := c_33
                  rw [(lat_in (by omega) (by omega)).1, (lat_in (by omega) (by omega)).1] at c33
                  exact c33) (by omega) _ (lv_sub hl [1, 2, 0] rfl)
          · refine lv_iconst (v := iI (0)) hx hb dRO_isLike_36 rfl ?_
            exact hret 37 ls 0 (Or.inr ⟨rfl, fun q => by rw [q] at c_33; exact c_33 rfl⟩) dRO_isLike_37
    exact lp15 _ 0 (Nat.zero_le _) (fun j hj => absurd hj (Nat.not_lt_zero _)) (Nat.lt_succ_self _) _ (lv_sub hl [1, 2, 0] rfl)
  · refine lv_iconst (v := iI (0)) hx hb dRO_isLike_11 rfl ?_
    exact hret 12 ls 0 (Or.inr ⟨rfl, fun q => by rw [q] at c_8; exact c_8 rfl⟩) dRO_isLike_12

def rmRO_init : Room := { frames := 1, cells := 1, slots := 192, locals := 30 }
set_option maxHeartbeats 4000000 in
set_option maxRecDepth 100000 in
theorem mRO_init (l : Launch) (D : va_G) (cI cG : ClassId) (r N : Nat) (hN : N ≤ 192) : zV l yRO_init wRO_init rmRO_init D vwCl (zT cI cG) [.ref r, .int (iI (N : Int))] [(r, .inr (5, [.null, .int (iI 0)]))] (S := Nat) (fun u => True) (fun u => [(r, .inr (5, [.ref u, .int (iI 0)])), (u, .inl (cI, N, .inl (zf fun _ => 0)))]) := by
  refine zV.of (cc := cRO_init) (maxL := 2) (by decide) rfl (Nat.le_of_ble_eq_true rfl) ?_
  intro p e s m args below meth c A ls Q hx hb hml hown hts hnm hK hD hA hAe hX hl hret H locs hP hS
  have hl : lv_has ls 2 [(0, .ref r), (1, .int (iI (N : Int)))] := hl
  refine lv_aload_n hx hb dRO_init_0 rfl (lv_at hl 0 rfl) ?_
  refine W.objInit hx hb hown (hts _ (List.mem_cons_of_mem _ lkRO_3)) (hts _ (List.mem_cons_of_mem _ imJO_init)) (hts _ (List.mem_cons_of_mem _ kcJO_init)) rfl (by rw [hml]; exact hl.1) rfl dRO_init_1 (Nat.le_of_ble_eq_true rfl) (Nat.le_of_ble_eq_true rfl) ?_
  refine W.eq (g2 := F0 m 4 ls []) rfl ?_
  refine lv_aload_n hx hb dRO_init_4 rfl (lv_at hl 0 rfl) ?_
  refine lv_iconst (v := iI (0)) hx hb dRO_init_5 rfl ?_
  refine va_put (D := D) (ci := 5) (v := .int (iI 0)) (ty := .int) (C := nRO) (T := fRO) (N := 2) hx hb hts iwRO tRO tkRO nmRO hown hK hP hD hS 0 rfl rfl 1 (by decide) (hts _ (List.mem_cons_of_mem _ lkRO_9)) (fun _ h9 => h9) rfl (by decide +kernel) rfl rfl (Nat.le_of_ble_eq_true rfl) dRO_init_6 (fun H locs hP hD hS => ?_)
  have hP : va_P D vwCl [(r, .inr (5, [.null, .int (iI 0)]))] H := hP
  have hD : va_D A [(r, .inr (5, [.null, .int (iI 0)]))] := hD
  refine lv_aload_n hx hb dRO_init_9 rfl (lv_at hl 0 rfl) ?_
  refine lv_iload_n hx hb dRO_init_10 rfl (lv_at hl 1 rfl) ?_
  refine lv_iconst (v := iI (0)) hx hb dRO_init_11 rfl ?_
  refine lz_max (z := (N : Int)) hx hb (by rw [hml]; exact hl.1.symm) hown (hts _ (List.mem_cons_of_mem _ lkRO_15)) (hts _ (List.mem_cons_of_mem _ smJM_max)) (hts _ (List.mem_cons_of_mem _ iniJM)) (hts _ (List.mem_cons_of_mem _ kcJM_max)) (Nat.le_of_ble_eq_true rfl) (Nat.le_of_ble_eq_true rfl) (Nat.zero_le _) (Nat.zero_le _) (by omega) (by omega) (by rw [if_neg (by omega)]) dRO_init_12 ?_
  refine lz_newa hx hb (hts _ (List.mem_cons_of_mem _ ac_int)) hK hP hD hS hA 0 rfl (N := N) rfl (by omega) (Nat.le_of_ble_eq_true rfl) (by show 0 + N ≤ 192; omega) dRO_init_15 (fun q15 H hP hD hS => ?_)
  have hP : va_P D vwCl [(r, .inr (5, [.null, .int (iI 0)])), (q15, .inl (cI, N, .inl (zf (fun _ => 0))))] H := hP
  have hD : va_D A [(r, .inr (5, [.null, .int (iI 0)])), (q15, .inl (cI, N, .inl (zf (fun _ => 0))))] := hD
  refine va_putF (D := D) (ci := 5) (v := .ref q15) (ty := .array .int) (C := nRO) (T := fRO) (N := 2) hx hb hts iwRO tRO tkRO nmRO hown hK hP hD hS 0 rfl rfl 0 (by decide) (hts _ (List.mem_cons_of_mem _ lkRO_21)) (fun _ h9 => h9) rfl hnm rfl (by decide +kernel) rfl rfl (Nat.le_of_ble_eq_true rfl) dRO_init_17 (fun H locs hP hD hS => ?_)
  have hP : va_P D vwCl [(r, .inr (5, [.ref q15, .int (iI 0)])), (q15, .inl (cI, N, .inl (zf (fun _ => 0))))] H := hP
  have hD : va_D A [(r, .inr (5, [.ref q15, .int (iI 0)])), (q15, .inl (cI, N, .inl (zf (fun _ => 0))))] := hD
  exact hret H locs (0 + 1) (0 + N) 20 ls q15 trivial (hP.sub [0, 1] rfl) (hD.sub [0, 1] (by decide) rfl) hS (Nat.le_refl _) (by show 0 + N ≤ 192; omega) dRO_init_20
