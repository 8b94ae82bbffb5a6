/-! Row: written by wip/whole/genrow.py -/
def rmRO_size : Room := { frames := 0, cells := 0, slots := 0, locals := 0 }
set_option maxHeartbeats 4000000 in
set_option maxRecDepth 100000 in
theorem mRO_size (l : Launch) (D : va_G) (cI cG : ClassId) (r a : Nat) (sz : Int)  : zRI l yRO_size wRO_size rmRO_size D vwCl (zT cI cG) [.ref r] [(r, .inr (5, [.ref a, .int (iI sz)]))] (fun z => z = sz) := by
  refine zRI.of (cc := cRO_size) (maxL := 1) (rt := .int) (by decide) rfl (Nat.le_of_ble_eq_true rfl) (fun _ _ => rfl) ?_
  intro p e s m args below meth c ls Q hx hb hml hown hts hK hP hX hl hret
  have hS0 : va_S (fun _ => False) s.heap s.heap [] := va_S.rf
  have hl : lv_has ls 1 [(0, .ref r)] := hl
  refine lv_aload_n hx hb dRO_size_0 rfl (lv_at hl 0 rfl) ?_
  refine va_get (D := D) (ci := 5) (v := .int (iI sz)) (C := nRO) (T := fRO) (N := 2) hx hb hts iwRO hown hK hP 0 rfl rfl 1 (by decide) (hts _ (List.mem_cons_of_mem _ lkRO_9)) (fun _ h9 => h9) rfl dRO_size_1 ?_
  exact hret 4 ls sz rfl dRO_size_4

def rmRO_clear : Room := { frames := 0, cells := 0, slots := 0, locals := 0 }
set_option maxHeartbeats 4000000 in
set_option maxRecDepth 100000 in
theorem mRO_clear (l : Launch) (D : va_G) (cI cG : ClassId) (r a : Nat) (sz : Int)  : zV l yRO_clear wRO_clear rmRO_clear D vwCl (zT cI cG) [.ref r] [(r, .inr (5, [.ref a, .int (iI sz)]))] (S := Unit) (fun u => True) (fun u => [(r, .inr (5, [.ref a, .int (iI 0)]))]) := by
  refine zV.of (cc := cRO_clear) (maxL := 1) (by decide) rfl (Nat.le_of_ble_eq_true rfl) ?_
  intro p e s m args below meth c A ls Q hx hb hml hown hts hnm hK hD hA hAe hX hl hret H locs hP hS
  have hl : lv_has ls 1 [(0, .ref r)] := hl
  refine lv_aload_n hx hb dRO_clear_0 rfl (lv_at hl 0 rfl) ?_
  refine lv_iconst (v := iI (0)) hx hb dRO_clear_1 rfl ?_
  refine va_put (D := D) (ci := 5) (v := .int (iI 0)) (ty := .int) (C := nRO) (T := fRO) (N := 2) hx hb hts iwRO tRO tkRO nmRO hown hK hP hD hS 0 rfl rfl 1 (by decide) (hts _ (List.mem_cons_of_mem _ lkRO_9)) (fun _ h9 => h9) rfl (by decide +kernel) rfl rfl (Nat.le_of_ble_eq_true rfl) dRO_clear_2 (fun H locs hP hD hS => ?_)
  have hP : va_P D vwCl [(r, .inr (5, [.ref a, .int (iI 0)]))] H := hP
  have hD : va_D A [(r, .inr (5, [.ref a, .int (iI 0)]))] := hD
  exact hret H locs 0 0 5 ls () trivial (hP.sub [0] rfl) (hD.sub [0] (by decide) rfl) hS (Nat.zero_le _) (Nat.zero_le _) dRO_clear_5

def rmRO_at : Room := { frames := 0, cells := 0, slots := 0, locals := 0 }
set_option maxHeartbeats 4000000 in
set_option maxRecDepth 100000 in
theorem mRO_at (l : Launch) (D : va_G) (cI cG : ClassId) (r a n : Nat) (f : Nat → Int) (ks : List Int) (k : Int) (h : rowOK n f ks) (hk : -2147483648 ≤ k ∧ k < 2147483648) : zRI l yRO_at wRO_at rmRO_at D vwCl (zT cI cG) [.ref r, .int (iI k)] [(r, .inr (5, [.ref a, .int (iI (ks.length : Int))])), (a, .inl (cI, n, .inl (zf f)))] (fun z => z = lat ks k) := by
  refine zRI.of (cc := cRO_at) (maxL := 2) (rt := .int) (by decide) rfl (Nat.le_of_ble_eq_true rfl) (fun _ _ => rfl) ?_
  intro p e s m args below meth c ls Q hx hb hml hown hts hK hP hX hl hret
  have hS0 : va_S (fun _ => False) s.heap s.heap [] := va_S.rf
  have hl : lv_has ls 2 [(0, .ref r), (1, .int (iI k))] := hl
  have hb1 := h.1
  have hb2 := h.2.1
  refine lv_iload_n hx hb dRO_at_0 rfl (lv_at hl 1 rfl) ?_
  refine lz_if_lt (tgt := 30) hx hb dRO_at_1 (by decide) (by omega) (fun c_1 => ?_) (fun c_1 => ?_)
  · refine lv_iconst (v := iI (-1)) hx hb dRO_at_30 rfl ?_
    exact hret 31 ls (-1) (lat_out (by omega)).symm dRO_at_31
  · refine lv_iload_n hx hb dRO_at_4 rfl (lv_at hl 1 rfl) ?_
    refine lv_aload_n hx hb dRO_at_5 rfl (lv_at hl 0 rfl) ?_
    refine va_get (D := D) (ci := 5) (v := .int (iI (ks.length : Int))) (C := nRO) (T := fRO) (N := 2) hx hb hts iwRO hown hK hP 0 rfl rfl 1 (by decide) (hts _ (List.mem_cons_of_mem _ lkRO_9)) (fun _ h9 => h9) rfl dRO_at_6 ?_
    refine lz_icmp_ge (tgt := 30) hx hb dRO_at_9 (by decide) (by omega) (by omega) (fun c_9 => ?_) (fun c_9 => ?_)
    · refine lv_iconst (v := iI (-1)) hx hb dRO_at_30 rfl ?_
      exact hret 31 ls (-1) (lat_out (by omega)).symm dRO_at_31
    · refine lv_iload_n hx hb dRO_at_12 rfl (lv_at hl 1 rfl) ?_
      refine lv_aload_n hx hb dRO_at_13 rfl (lv_at hl 0 rfl) ?_
      refine va_get (D := D) (ci := 5) (v := .ref a) (C := nRO) (T := fRO) (N := 2) hx hb hts iwRO hown hK hP 0 rfl rfl 0 (by decide) (hts _ (List.mem_cons_of_mem _ lkRO_21)) (fun _ h9 => h9) rfl dRO_at_14 ?_
      refine lz_alen hx hb hK hP 1 0 rfl rfl dRO_at_17 ?_
      refine lz_icmp_ge (tgt := 30) hx hb dRO_at_18 (by decide) (by omega) (by omega) (fun c_18 => ?_) (fun c_18 => ?_)
      · exact absurd c_18 (by omega)
      · refine lv_aload_n hx hb dRO_at_21 rfl (lv_at hl 0 rfl) ?_
        refine va_get (D := D) (ci := 5) (v := .ref a) (C := nRO) (T := fRO) (N := 2) hx hb hts iwRO hown hK hP 0 rfl rfl 0 (by decide) (hts _ (List.mem_cons_of_mem _ lkRO_21)) (fun _ h9 => h9) rfl dRO_at_22 ?_
        refine lv_iload_n hx hb dRO_at_25 rfl (lv_at hl 1 rfl) ?_
        refine lz_iald hx hb hK hP 1 0 rfl rfl (z := k) (by omega) dRO_at_26 ?_
        refine lv_goto (tgt := 31) hx hb dRO_at_27 (by decide) ?_
        exact hret 31 ls (f (k).toNat) (by rw [(lat_in c_1 c_9).1]; exact h.2.2.1 _ (by omega)) dRO_at_31

def rmRO_firstNotBelow : Room := { frames := 0, cells := 0, slots := 0, locals := 0 }
set_option maxHeartbeats 4000000 in
set_option maxRecDepth 100000 in
theorem mRO_firstNotBelow (l : Launch) (D : va_G) (cI cG : ClassId) (r a n : Nat) (f : Nat → Int) (ks : List Int) (x : Int) (h : rowOK n f ks) (hx1 : -2147483648 ≤ x ∧ x < 2147483648) : zRI l yRO_firstNotBelow wRO_firstNotBelow rmRO_firstNotBelow D vwCl (zT cI cG) [.ref r, .int (iI x)] [(r, .inr (5, [.ref a, .int (iI (ks.length : Int))])), (a, .inl (cI, n, .inl (zf f)))] (fun z => fnb ks x z) := by
  refine zRI.of (cc := cRO_firstNotBelow) (maxL := 6) (rt := .int) (by decide) rfl (Nat.le_of_ble_eq_true rfl) (fun _ _ => rfl) ?_
  intro p e s m args below meth c ls Q hx hb hml hown hts hK hP hX hl hret
  have hS0 : va_S (fun _ => False) s.heap s.heap [] := va_S.rf
  have hl : lv_has ls 6 [(0, .ref r), (1, .int (iI x))] := hl
  have hb1 := h.1
  have hb2 := h.2.1
  have hb3 := hbs_32
  refine lv_iconst (v := iI (0)) hx hb dRO_firstNotBelow_0 rfl ?_
  refine lv_istore_n (lv' := [(2, .int (iI 0)), (0, .ref r), (1, .int (iI x))]) hx hb dRO_firstNotBelow_1 rfl hl (by decide) rfl (fun ls hl => ?_)
  refine lv_aload_n hx hb dRO_firstNotBelow_2 rfl (lv_at hl 1 rfl) ?_
  refine va_get (D := D) (ci := 5) (v := .int (iI (ks.length : Int))) (C := nRO) (T := fRO) (N := 2) hx hb hts iwRO hown hK hP 0 rfl rfl 1 (by decide) (hts _ (List.mem_cons_of_mem _ lkRO_9)) (fun _ h9 => h9) rfl dRO_firstNotBelow_3 ?_
  refine lv_istore_n (lv' := [(3, .int (iI (ks.length : Int))), (2, .int (iI 0)), (0, .ref r), (1, .int (iI x))]) hx hb dRO_firstNotBelow_6 rfl hl (by decide) rfl (fun ls hl => ?_)
  refine lv_iconst (v := iI (0)) hx hb dRO_firstNotBelow_7 rfl ?_
  refine lv_istore (lv' := [(4, .int (iI 0)), (3, .int (iI (ks.length : Int))), (2, .int (iI 0)), (0, .ref r), (1, .int (iI x))]) hx hb dRO_firstNotBelow_8 hl (by decide) rfl (fun ls hl => ?_)
  have lp10 : ∀ (n : Nat) (k : Nat) (lo hi : Int), (fnbI ks x lo hi) → (hi - lo ≤ hbs k) → (k ≤ 32) → (32 - k) < n → ∀ (ls : Array Slot), lv_has ls 6 [(0, .ref r), (1, .int (iI x)), (2, .int (iI lo)), (3, .int (iI hi)), (4, .int (iI (k : Int)))] → W p l e (headSpec wRO_firstNotBelow rmRO_firstNotBelow).room s m args below meth c s.heap [] 0 0 Q (F0 m 10 ls []) := by
    intro n
    induction n with
    | zero => intro k lo hi hI hw hk hm; exact absurd hm (Nat.not_lt_zero _)
    | succ n ih10 =>
      intro k lo hi hI hw hk hm10 ls hl
      refine lv_iload hx hb dRO_firstNotBelow_10 (lv_at hl 4 rfl) ?_
      refine lv_bipush (v := iI (32)) hx hb dRO_firstNotBelow_12 (by decide) ?_
      refine lz_icmp_ge (tgt := 67) hx hb dRO_firstNotBelow_14 (by decide) (by omega) (by omega) (fun c_14 => ?_) (fun c_14 => ?_)
      · obtain ⟨i1, i2, i3, i4, i5⟩ := id hI
        obtain rfl : k = 32 := by omega
        obtain rfl : lo = hi := by omega
        refine lv_iload_n hx hb dRO_firstNotBelow_67 rfl (lv_at hl 2 rfl) ?_
        exact hret 68 ls lo hI dRO_firstNotBelow_68
      · obtain ⟨i1, i2, i3, i4, i5⟩ := id hI
        refine lv_iload_n hx hb dRO_firstNotBelow_17 rfl (lv_at hl 2 rfl) ?_
        refine lv_iload_n hx hb dRO_firstNotBelow_18 rfl (lv_at hl 3 rfl) ?_
        refine lz_icmp_ge (tgt := 67) hx hb dRO_firstNotBelow_19 (by decide) (by omega) (by omega) (fun c_19 => ?_) (fun c_19 => ?_)
        · obtain rfl : lo = hi := by omega
          refine lv_iload_n hx hb dRO_firstNotBelow_67 rfl (lv_at hl 2 rfl) ?_
          exact hret 68 ls lo hI dRO_firstNotBelow_68
        · refine lv_iload_n hx hb dRO_firstNotBelow_22 rfl (lv_at hl 2 rfl) ?_
          refine lv_iload_n hx hb dRO_firstNotBelow_23 rfl (lv_at hl 3 rfl) ?_
          refine lz_iadd hx hb dRO_firstNotBelow_24 ?_
          refine lv_iconst (v := iI (1)) hx hb dRO_firstNotBelow_25 rfl ?_
          refine lv_iushr (v := iI ((lo + hi) / 2)) hx hb dRO_firstNotBelow_26 (iI_ushr1 (by omega)) ?_
          refine lv_istore (lv' := [(5, .int (iI ((lo + hi) / 2))), (0, .ref r), (1, .int (iI x)), (2, .int (iI lo)), (3, .int (iI hi)), (4, .int (iI (k : Int)))]) hx hb dRO_firstNotBelow_27 hl (by decide) rfl (fun ls hl => ?_)
          refine lv_iload hx hb dRO_firstNotBelow_29 (lv_at hl 0 rfl) ?_
          refine lv_aload_n hx hb dRO_firstNotBelow_31 rfl (lv_at hl 1 rfl) ?_
          refine va_get (D := D) (ci := 5) (v := .ref a) (C := nRO) (T := fRO) (N := 2) hx hb hts iwRO hown hK hP 0 rfl rfl 0 (by decide) (hts _ (List.mem_cons_of_mem _ lkRO_21)) (fun _ h9 => h9) rfl dRO_firstNotBelow_32 ?_
          refine lz_alen hx hb hK hP 1 0 rfl rfl dRO_firstNotBelow_35 ?_
          refine lz_icmp_ge (tgt := 58) hx hb dRO_firstNotBelow_36 (by decide) (by omega) (by omega) (fun c_36 => ?_) (fun c_36 => ?_)
          · exact absurd c_36 (by omega)
          · refine lv_aload_n hx hb dRO_firstNotBelow_39 rfl (lv_at hl 1 rfl) ?_
            refine va_get (D := D) (ci := 5) (v := .ref a) (C := nRO) (T := fRO) (N := 2) hx hb hts iwRO hown hK hP 0 rfl rfl 0 (by decide) (hts _ (List.mem_cons_of_mem _ lkRO_21)) (fun _ h9 => h9) rfl dRO_firstNotBelow_40 ?_
            refine lv_iload hx hb dRO_firstNotBelow_43 (lv_at hl 0 rfl) ?_
            refine lz_iald hx hb hK hP 1 0 rfl rfl (z := (lo + hi) / 2) (by omega) dRO_firstNotBelow_45 ?_
            refine lv_iload_n hx hb dRO_firstNotBelow_46 rfl (lv_at hl 2 rfl) ?_
            refine lz_icmp_ge (tgt := 58) hx hb dRO_firstNotBelow_47 (by decide) (by rw [h.2.2.1 _ (by omega)]; have := h.rng (j := ((lo + hi) / 2).toNat) (by omega); omega) (by omega) (fun c_47 => ?_) (fun c_47 => ?_)
            · have hmx : x ≤ ks.getD ((lo + hi) / 2).toNat (-1) := by rw [← h.2.2.1 _ (by omega)]; exact c_47
              refine lv_iload hx hb dRO_firstNotBelow_58 (lv_at hl 0 rfl) ?_
              refine lv_istore_n (lv' := [(3, .int (iI ((lo + hi) / 2))), (5, .int (iI ((lo + hi) / 2))), (0, .ref r), (1, .int (iI x)), (2, .int (iI lo)), (4, .int (iI (k : Int)))]) hx hb dRO_firstNotBelow_60 rfl hl (by decide) rfl (fun ls hl => ?_)
              refine lz_iinc (lv' := [(4, .int (iI ((k : Int) + 1))), (3, .int (iI ((lo + hi) / 2))), (5, .int (iI ((lo + hi) / 2))), (0, .ref r), (1, .int (iI x)), (2, .int (iI lo))]) hx hb dRO_firstNotBelow_61 hl (k := 5) rfl (by decide) rfl (fun ls hl => ?_)
              refine lv_goto (tgt := 10) hx hb dRO_firstNotBelow_64 (by decide) ?_
              exact ih10 (k + 1) lo ((lo + hi) / 2) (hI.dn h.2.2.2.1 (mid := (lo + hi) / 2) (by omega) hmx) (show _ ≤ hbs k / 2 by omega) (by omega) (by omega) _ (lv_sub hl [3, 4, 5, 1, 0] rfl)
            · have hmx : ks.getD ((lo + hi) / 2).toNat (-1) < x := by rw [← h.2.2.1 _ (by omega)]; exact c_47
              refine lv_iload hx hb dRO_firstNotBelow_50 (lv_at hl 0 rfl) ?_
              refine lv_iconst (v := iI (1)) hx hb dRO_firstNotBelow_52 rfl ?_
              refine lz_iadd hx hb dRO_firstNotBelow_53 ?_
              refine lv_istore_n (lv' := [(2, .int (iI (((lo + hi) / 2) + 1))), (5, .int (iI ((lo + hi) / 2))), (0, .ref r), (1, .int (iI x)), (3, .int (iI hi)), (4, .int (iI (k : Int)))]) hx hb dRO_firstNotBelow_54 rfl hl (by decide) rfl (fun ls hl => ?_)
              refine lv_goto (tgt := 61) hx hb dRO_firstNotBelow_55 (by decide) ?_
              refine lz_iinc (lv' := [(4, .int (iI ((k : Int) + 1))), (2, .int (iI (((lo + hi) / 2) + 1))), (5, .int (iI ((lo + hi) / 2))), (0, .ref r), (1, .int (iI x)), (3, .int (iI hi))]) hx hb dRO_firstNotBelow_61 hl (k := 5) rfl (by decide) rfl (fun ls hl => ?_)
              refine lv_goto (tgt := 10) hx hb dRO_firstNotBelow_64 (by decide) ?_
              exact ih10 (k + 1) (((lo + hi) / 2) + 1) hi (hI.up h.2.2.2.1 (mid := (lo + hi) / 2) (by omega) hmx) (show _ ≤ hbs k / 2 by omega) (by omega) (by omega) _ (lv_sub hl [3, 4, 1, 5, 0] rfl)
  exact lp10 _ 0 0 (ks.length : Int) ⟨by omega, by omega, by omega, fun j hj => by omega, fun j hj hl2 => by omega⟩ (show (ks.length : Int) - 0 ≤ 1024 by omega) (by omega) (Nat.lt_succ_self _) _ (lv_sub hl [3, 4, 2, 1, 0] rfl)
