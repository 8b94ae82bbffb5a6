/-! Bench: written by wip/whole/genbench.py -/
def rmBE_read : Room := { frames := 0, cells := 0, slots := 0, locals := 0 }
set_option maxHeartbeats 4000000 in
set_option maxRecDepth 100000 in
theorem mBE_read (l : Launch) (D : va_G) (cI cG : ClassId) (a : Nat) (g : Nat → Int) (k : Int) (hk : 0 ≤ k ∧ k < 2147483648) : zV l yBE_read wBE_read rmBE_read D vwCl (zT cI cG) [.int (iI k), .ref a] [(a, .inl (cI, 9, .inl (zf g)))] (S := Unit) (fun u => True) (fun u => [(a, .inl (cI, 9, .inl (zf (rd k g))))]) := by
  refine zV.of (cc := cBE_read) (maxL := 4) (by decide) rfl (Nat.le_of_ble_eq_true rfl) ?_
  intro p e s m args below meth c A ls Q hx hb hml hown hts hnm hK hD hA hAe hX hl hret H locs hP hS
  have hl : lv_has ls 4 [(0, .int (iI k)), (1, .ref a)] := hl
  have hnr := nnT_rng hk
  refine lv_iload_n hx hb dBE_read_0 rfl (lv_at hl 0 rfl) ?_
  refine lv_sipush (v := iI (13824)) hx hb dBE_read_1 (by decide) ?_
  refine lz_idiv hx hb dBE_read_4 (by omega) (by omega) ?_
  refine lv_istore_n (lv' := [(2, .int (iI (k / 13824))), (0, .int (iI k)), (1, .ref a)]) hx hb dBE_read_5 rfl hl (by decide) rfl (fun ls hl => ?_)
  refine lv_bipush (v := iI (8)) hx hb dBE_read_6 (by decide) ?_
  refine lv_istore_n (lv' := [(3, .int (iI 8)), (2, .int (iI (k / 13824))), (0, .int (iI k)), (1, .ref a)]) hx hb dBE_read_8 rfl hl (by decide) rfl (fun ls hl => ?_)
  rw [show 8 = 8 - ((0 : Nat) : Int) from rfl] at hl
  rw [show g = rdT k g 0 from (rdT_0 k g).symm] at hP hD
  have lp9 : ∀ (n9 : Nat) (t : Nat), (t ≤ 9) → (9 - t) < n9 → ∀ (H : Heap) (locs : List Loc), va_P D vwCl [(a, .inl (cI, 9, .inl (zf (rdT k g t))))] H → va_D A [(a, .inl (cI, 9, .inl (zf (rdT k g t))))] → va_S A s.heap H locs → ∀ (ls : Array Slot), lv_has ls 4 [(0, .int (iI k)), (1, .ref a), (2, .int (iI (nnT k t))), (3, .int (iI (8 - (t : Int))))] → W p l e (headSpec wBE_read rmBE_read).room s m args below meth c H locs 0 0 Q (F0 m 9 ls []) := by
    intro n9
    induction n9 with
    | zero => intro t ht hm; exact absurd hm (Nat.not_lt_zero _)
    | succ n9 ih9 =>
      intro t ht hm9 H locs hP hD hS ls hl
      refine lv_iload_n hx hb dBE_read_9 rfl (lv_at hl 3 rfl) ?_
      refine lz_if_lt (tgt := 37) hx hb dBE_read_10 (by decide) (by omega) (fun c_10 => ?_) (fun c_10 => ?_)
      · obtain rfl : t = 9 := by omega
        rw [rdT_9] at hP hD
        exact hret H locs 0 0 37 ls () trivial (hP.sub [0] rfl) (hD.sub [0] (by decide) rfl) hS (Nat.zero_le _) (Nat.zero_le _) dBE_read_37
      · refine lv_iload_n hx hb dBE_read_13 rfl (lv_at hl 3 rfl) ?_
        refine lv_aload_n hx hb dBE_read_14 rfl (lv_at hl 1 rfl) ?_
        refine lz_alen hx hb hK hP 0 0 rfl rfl dBE_read_15 ?_
        refine lz_icmp_ge (tgt := 37) hx hb dBE_read_16 (by decide) (by omega) (by omega) (fun c_16 => ?_) (fun c_16 => ?_)
        · exact absurd c_16 (by omega)
        · refine lv_aload_n hx hb dBE_read_19 rfl (lv_at hl 1 rfl) ?_
          refine lv_iload_n hx hb dBE_read_20 rfl (lv_at hl 3 rfl) ?_
          refine lv_iload_n hx hb dBE_read_21 rfl (lv_at hl 2 rfl) ?_
          refine lv_iconst (v := iI (3)) hx hb dBE_read_22 rfl ?_
          refine lz_irem hx hb dBE_read_23 (hnr t) (by omega) ?_
          refine lv_iconst (v := iI (1)) hx hb dBE_read_24 rfl ?_
          refine lz_isub hx hb dBE_read_25 ?_
          refine lz_iast hx hb hK hP hD hS 0 0 rfl rfl (z := 8 - (t : Int)) (v := ((nnT k t) % 3) - 1) (by omega) dBE_read_26 (fun H locs hP hD hS => ?_)
          have hP : va_P D vwCl [(a, .inl (cI, 9, .inl (zf (zu (rdT k g t) (8 - (t : Int)).toNat (((nnT k t) % 3) - 1)))))] H := hP
          have hD : va_D A [(a, .inl (cI, 9, .inl (zf (zu (rdT k g t) (8 - (t : Int)).toNat (((nnT k t) % 3) - 1)))))] := hD
          refine lv_iload_n hx hb dBE_read_27 rfl (lv_at hl 2 rfl) ?_
          refine lv_iconst (v := iI (3)) hx hb dBE_read_28 rfl ?_
          refine lz_idiv hx hb dBE_read_29 (hnr t) (by omega) ?_
          refine lv_istore_n (lv' := [(2, .int (iI ((nnT k t) / 3))), (0, .int (iI k)), (1, .ref a), (3, .int (iI (8 - (t : Int))))]) hx hb dBE_read_30 rfl hl (by decide) rfl (fun ls hl => ?_)
          refine lz_iinc (lv' := [(3, .int (iI ((8 - (t : Int)) + (-1)))), (2, .int (iI ((nnT k t) / 3))), (0, .int (iI k)), (1, .ref a)]) hx hb dBE_read_31 hl (k := 3) rfl (by decide) rfl (fun ls hl => ?_)
          refine lv_goto (tgt := 9) hx hb dBE_read_34 (by decide) ?_
          rw [show (8 - (t : Int)) + (-1) = 8 - ((t + 1 : Nat) : Int) from by omega] at hl
          rw [show zu (rdT k g t) (8 - (t : Int)).toNat (((nnT k t) % 3) - 1) = rdT k g (t + 1) from rdT_s (by omega)] at hP hD
          exact ih9 (t + 1) (by omega) (by omega) _ _ (hP.sub [0] rfl) (hD.sub [0] (by decide) rfl) hS _ (lv_sub hl [2, 3, 1, 0] rfl)
  exact lp9 _ 0 (Nat.zero_le _) (Nat.lt_succ_self _) _ _ (hP.sub [0] rfl) (hD.sub [0] (by decide) rfl) hS _ (lv_sub hl [2, 3, 1, 0] rfl)

def rmBE_determinant : Room := { frames := 1, cells := 0, slots := 0, locals := 23 }
set_option maxHeartbeats 4000000 in
set_option maxRecDepth 100000 in
theorem mBE_determinant (l : Launch) (D : va_G) (cI cG : ClassId) (b lf rt : Nat) (gl gr : Nat → Int) (k : Int) (hk : 0 ≤ k ∧ k < 2147483648) : zI l yBE_determinant wBE_determinant rmBE_determinant D vwCl (zT cI cG) [.ref b, .int (iI k)] [(b, .inr (1, [.ref lf, .ref rt])), (lf, .inl (cI, 9, .inl (zf gl))), (rt, .inl (cI, 9, .inl (zf gr)))] (S := Unit) (fun z u => z = detF (mdg k)) (fun u => [(b, .inr (1, [.ref lf, .ref rt])), (lf, .inl (cI, 9, .inl (zf (rd k gl)))), (rt, .inl (cI, 9, .inl (zf gr)))]) := by
  refine zI.of (cc := cBE_determinant) (maxL := 2) (rt := .int) (by decide) rfl (Nat.le_of_ble_eq_true rfl) (fun _ _ _ => rfl) ?_
  intro p e s m args below meth c A ls Q hx hb hml hown hts hnm hK hD hA hAe hX hl hret H locs hP hS
  have hl : lv_has ls 2 [(0, .ref b), (1, .int (iI k))] := hl
  refine lv_iload_n hx hb dBE_determinant_0 rfl (lv_at hl 1 rfl) ?_
  refine lv_aload_n hx hb dBE_determinant_1 rfl (lv_at hl 0 rfl) ?_
  refine va_get (D := D) (ci := 1) (v := .ref lf) (C := nBE) (T := fBE) (N := 2) hx hb hts iwBE hown hK hP 0 rfl rfl 0 (by decide) (hts _ (List.mem_cons_of_mem _ lkBE_9)) (fun _ h9 => h9) rfl dBE_determinant_2 ?_
  refine zV.back (va_runS (As := [.int (iI k), .ref lf]) (rest := []) ⟨hx, hb, hml, hown, hts⟩ ((mBE_read l D cI cG lf gl k hk) H.size) (va_cwS 2 hts (gT1 lkBE_18 (gT1 smBE_read (gT1 iniBE (gTW kcBE_read)))) rfl rfl rfl (by decide +kernel) ⟨Nat.le_of_ble_eq_true rfl, Nat.le_of_ble_eq_true rfl⟩) ⟨zPre_blind, zPre.at (wc := [(lf, .inl (cI, 9, .inl (zf gl)))]) hK hP hD hS hA hX [1] (by decide) rfl⟩ rfl rfl hl.1 rfl (lv_room (Nat.le_of_ble_eq_true rfl)) dBE_determinant_5 ⟨Nat.le_of_ble_eq_true rfl, Nat.le_of_ble_eq_true rfl⟩) (wr := [(b, .inr (1, [.ref lf, .ref rt])), (rt, .inl (cI, 9, .inl (zf gr)))]) hP hD hS hA [1] [0, 2] rfl rfl (by decide) (by decide) (fun u_5 H locs q_5 hP hD hS hz_5 hk_5 => ?_)
  have hP : va_P D vwCl [(b, .inr (1, [.ref lf, .ref rt])), (rt, .inl (cI, 9, .inl (zf gr))), (lf, .inl (cI, 9, .inl (zf (rd k gl))))] H := hP
  have hD : va_D A [(b, .inr (1, [.ref lf, .ref rt])), (rt, .inl (cI, 9, .inl (zf gr))), (lf, .inl (cI, 9, .inl (zf (rd k gl))))] := hD
  refine lv_aload_n hx hb dBE_determinant_8 rfl (lv_at hl 0 rfl) ?_
  refine va_get (D := D) (ci := 1) (v := .ref lf) (C := nBE) (T := fBE) (N := 2) hx hb hts iwBE hown hK hP 0 rfl rfl 0 (by decide) (hts _ (List.mem_cons_of_mem _ lkBE_9)) (fun _ h9 => h9) rfl dBE_determinant_9 ?_
  refine lv_iconst (v := iI (0)) hx hb dBE_determinant_12 rfl ?_
  refine lz_ialk hx hb hK hP 2 0 rfl rfl (z := 0) 0 rfl (by decide) dBE_determinant_13 ?_
  refine lv_aload_n hx hb dBE_determinant_14 rfl (lv_at hl 0 rfl) ?_
  refine va_get (D := D) (ci := 1) (v := .ref lf) (C := nBE) (T := fBE) (N := 2) hx hb hts iwBE hown hK hP 0 rfl rfl 0 (by decide) (hts _ (List.mem_cons_of_mem _ lkBE_9)) (fun _ h9 => h9) rfl dBE_determinant_15 ?_
  refine lv_iconst (v := iI (4)) hx hb dBE_determinant_18 rfl ?_
  refine lz_ialk hx hb hK hP 2 0 rfl rfl (z := 4) 4 rfl (by decide) dBE_determinant_19 ?_
  refine lv_aload_n hx hb dBE_determinant_20 rfl (lv_at hl 0 rfl) ?_
  refine va_get (D := D) (ci := 1) (v := .ref lf) (C := nBE) (T := fBE) (N := 2) hx hb hts iwBE hown hK hP 0 rfl rfl 0 (by decide) (hts _ (List.mem_cons_of_mem _ lkBE_9)) (fun _ h9 => h9) rfl dBE_determinant_21 ?_
  refine lv_bipush (v := iI (8)) hx hb dBE_determinant_24 (by decide) ?_
  refine lz_ialk hx hb hK hP 2 0 rfl rfl (z := 8) 8 rfl (by decide) dBE_determinant_26 ?_
  refine lz_imul hx hb dBE_determinant_27 ?_
  refine lv_aload_n hx hb dBE_determinant_28 rfl (lv_at hl 0 rfl) ?_
  refine va_get (D := D) (ci := 1) (v := .ref lf) (C := nBE) (T := fBE) (N := 2) hx hb hts iwBE hown hK hP 0 rfl rfl 0 (by decide) (hts _ (List.mem_cons_of_mem _ lkBE_9)) (fun _ h9 => h9) rfl dBE_determinant_29 ?_
  refine lv_iconst (v := iI (5)) hx hb dBE_determinant_32 rfl ?_
  refine lz_ialk hx hb hK hP 2 0 rfl rfl (z := 5) 5 rfl (by decide) dBE_determinant_33 ?_
  refine lv_aload_n hx hb dBE_determinant_34 rfl (lv_at hl 0 rfl) ?_
  refine va_get (D := D) (ci := 1) (v := .ref lf) (C := nBE) (T := fBE) (N := 2) hx hb hts iwBE hown hK hP 0 rfl rfl 0 (by decide) (hts _ (List.mem_cons_of_mem _ lkBE_9)) (fun _ h9 => h9) rfl dBE_determinant_35 ?_
  refine lv_bipush (v := iI (7)) hx hb dBE_determinant_38 (by decide) ?_
  refine lz_ialk hx hb hK hP 2 0 rfl rfl (z := 7) 7 rfl (by decide) dBE_determinant_40 ?_
  refine lz_imul hx hb dBE_determinant_41 ?_
  refine lz_isub hx hb dBE_determinant_42 ?_
  refine lz_imul hx hb dBE_determinant_43 ?_
  refine lv_aload_n hx hb dBE_determinant_44 rfl (lv_at hl 0 rfl) ?_
  refine va_get (D := D) (ci := 1) (v := .ref lf) (C := nBE) (T := fBE) (N := 2) hx hb hts iwBE hown hK hP 0 rfl rfl 0 (by decide) (hts _ (List.mem_cons_of_mem _ lkBE_9)) (fun _ h9 => h9) rfl dBE_determinant_45 ?_
  refine lv_iconst (v := iI (1)) hx hb dBE_determinant_48 rfl ?_
  refine lz_ialk hx hb hK hP 2 0 rfl rfl (z := 1) 1 rfl (by decide) dBE_determinant_49 ?_
  refine lv_aload_n hx hb dBE_determinant_50 rfl (lv_at hl 0 rfl) ?_
  refine va_get (D := D) (ci := 1) (v := .ref lf) (C := nBE) (T := fBE) (N := 2) hx hb hts iwBE hown hK hP 0 rfl rfl 0 (by decide) (hts _ (List.mem_cons_of_mem _ lkBE_9)) (fun _ h9 => h9) rfl dBE_determinant_51 ?_
  refine lv_iconst (v := iI (3)) hx hb dBE_determinant_54 rfl ?_
  refine lz_ialk hx hb hK hP 2 0 rfl rfl (z := 3) 3 rfl (by decide) dBE_determinant_55 ?_
  refine lv_aload_n hx hb dBE_determinant_56 rfl (lv_at hl 0 rfl) ?_
  refine va_get (D := D) (ci := 1) (v := .ref lf) (C := nBE) (T := fBE) (N := 2) hx hb hts iwBE hown hK hP 0 rfl rfl 0 (by decide) (hts _ (List.mem_cons_of_mem _ lkBE_9)) (fun _ h9 => h9) rfl dBE_determinant_57 ?_
  refine lv_bipush (v := iI (8)) hx hb dBE_determinant_60 (by decide) ?_
  refine lz_ialk hx hb hK hP 2 0 rfl rfl (z := 8) 8 rfl (by decide) dBE_determinant_62 ?_
  refine lz_imul hx hb dBE_determinant_63 ?_
  refine lv_aload_n hx hb dBE_determinant_64 rfl (lv_at hl 0 rfl) ?_
  refine va_get (D := D) (ci := 1) (v := .ref lf) (C := nBE) (T := fBE) (N := 2) hx hb hts iwBE hown hK hP 0 rfl rfl 0 (by decide) (hts _ (List.mem_cons_of_mem _ lkBE_9)) (fun _ h9 => h9) rfl dBE_determinant_65 ?_
  refine lv_iconst (v := iI (5)) hx hb dBE_determinant_68 rfl ?_
  refine lz_ialk hx hb hK hP 2 0 rfl rfl (z := 5) 5 rfl (by decide) dBE_determinant_69 ?_
  refine lv_aload_n hx hb dBE_determinant_70 rfl (lv_at hl 0 rfl) ?_
  refine va_get (D := D) (ci := 1) (v := .ref lf) (C := nBE) (T := fBE) (N := 2) hx hb hts iwBE hown hK hP 0 rfl rfl 0 (by decide) (hts _ (List.mem_cons_of_mem _ lkBE_9)) (fun _ h9 => h9) rfl dBE_determinant_71 ?_
  refine lv_bipush (v := iI (6)) hx hb dBE_determinant_74 (by decide) ?_
  refine lz_ialk hx hb hK hP 2 0 rfl rfl (z := 6) 6 rfl (by decide) dBE_determinant_76 ?_
  refine lz_imul hx hb dBE_determinant_77 ?_
  refine lz_isub hx hb dBE_determinant_78 ?_
  refine lz_imul hx hb dBE_determinant_79 ?_
  refine lz_isub hx hb dBE_determinant_80 ?_
  refine lv_aload_n hx hb dBE_determinant_81 rfl (lv_at hl 0 rfl) ?_
  refine va_get (D := D) (ci := 1) (v := .ref lf) (C := nBE) (T := fBE) (N := 2) hx hb hts iwBE hown hK hP 0 rfl rfl 0 (by decide) (hts _ (List.mem_cons_of_mem _ lkBE_9)) (fun _ h9 => h9) rfl dBE_determinant_82 ?_
  refine lv_iconst (v := iI (2)) hx hb dBE_determinant_85 rfl ?_
  refine lz_ialk hx hb hK hP 2 0 rfl rfl (z := 2) 2 rfl (by decide) dBE_determinant_86 ?_
  refine lv_aload_n hx hb dBE_determinant_87 rfl (lv_at hl 0 rfl) ?_
  refine va_get (D := D) (ci := 1) (v := .ref lf) (C := nBE) (T := fBE) (N := 2) hx hb hts iwBE hown hK hP 0 rfl rfl 0 (by decide) (hts _ (List.mem_cons_of_mem _ lkBE_9)) (fun _ h9 => h9) rfl dBE_determinant_88 ?_
  refine lv_iconst (v := iI (3)) hx hb dBE_determinant_91 rfl ?_
  refine lz_ialk hx hb hK hP 2 0 rfl rfl (z := 3) 3 rfl (by decide) dBE_determinant_92 ?_
  refine lv_aload_n hx hb dBE_determinant_93 rfl (lv_at hl 0 rfl) ?_
  refine va_get (D := D) (ci := 1) (v := .ref lf) (C := nBE) (T := fBE) (N := 2) hx hb hts iwBE hown hK hP 0 rfl rfl 0 (by decide) (hts _ (List.mem_cons_of_mem _ lkBE_9)) (fun _ h9 => h9) rfl dBE_determinant_94 ?_
  refine lv_bipush (v := iI (7)) hx hb dBE_determinant_97 (by decide) ?_
  refine lz_ialk hx hb hK hP 2 0 rfl rfl (z := 7) 7 rfl (by decide) dBE_determinant_99 ?_
  refine lz_imul hx hb dBE_determinant_100 ?_
  refine lv_aload_n hx hb dBE_determinant_101 rfl (lv_at hl 0 rfl) ?_
  refine va_get (D := D) (ci := 1) (v := .ref lf) (C := nBE) (T := fBE) (N := 2) hx hb hts iwBE hown hK hP 0 rfl rfl 0 (by decide) (hts _ (List.mem_cons_of_mem _ lkBE_9)) (fun _ h9 => h9) rfl dBE_determinant_102 ?_
  refine lv_iconst (v := iI (4)) hx hb dBE_determinant_105 rfl ?_
  refine lz_ialk hx hb hK hP 2 0 rfl rfl (z := 4) 4 rfl (by decide) dBE_determinant_106 ?_
  refine lv_aload_n hx hb dBE_determinant_107 rfl (lv_at hl 0 rfl) ?_
  refine va_get (D := D) (ci := 1) (v := .ref lf) (C := nBE) (T := fBE) (N := 2) hx hb hts iwBE hown hK hP 0 rfl rfl 0 (by decide) (hts _ (List.mem_cons_of_mem _ lkBE_9)) (fun _ h9 => h9) rfl dBE_determinant_108 ?_
  refine lv_bipush (v := iI (6)) hx hb dBE_determinant_111 (by decide) ?_
  refine lz_ialk hx hb hK hP 2 0 rfl rfl (z := 6) 6 rfl (by decide) dBE_determinant_113 ?_
  refine lz_imul hx hb dBE_determinant_114 ?_
  refine lz_isub hx hb dBE_determinant_115 ?_
  refine lz_imul hx hb dBE_determinant_116 ?_
  refine lz_iadd hx hb dBE_determinant_117 ?_
  exact hret H locs 0 0 118 ls (((((rd k gl) 0) * ((((rd k gl) 4) * ((rd k gl) 8)) - (((rd k gl) 5) * ((rd k gl) 7)))) - (((rd k gl) 1) * ((((rd k gl) 3) * ((rd k gl) 8)) - (((rd k gl) 5) * ((rd k gl) 6))))) + (((rd k gl) 2) * ((((rd k gl) 3) * ((rd k gl) 7)) - (((rd k gl) 4) * ((rd k gl) 6))))) () rfl (hP.sub [0, 2, 1] rfl) (hD.sub [0, 2, 1] (by decide) rfl) hS (Nat.zero_le _) (Nat.zero_le _) dBE_determinant_118

def rmBE_sort : Room := { frames := 2, cells := 0, slots := 0, locals := 44 }
set_option maxHeartbeats 4000000 in
set_option maxRecDepth 100000 in
theorem mBE_sort (l : Launch) (D : va_G) (cI cG : ClassId) (b lf rt : Nat) (gl gr : Nat → Int) (k : Int) (hk : 0 ≤ k ∧ k < 2147483648) : zI l yBE_sort wBE_sort rmBE_sort D vwCl (zT cI cG) [.ref b, .int (iI k)] [(b, .inr (1, [.ref lf, .ref rt])), (lf, .inl (cI, 9, .inl (zf gl))), (rt, .inl (cI, 9, .inl (zf gr)))] (S := Unit) (fun z u => z = sortK k) (fun u => [(b, .inr (1, [.ref lf, .ref rt])), (lf, .inl (cI, 9, .inl (zf (rd k gl)))), (rt, .inl (cI, 9, .inl (zf gr)))]) := by
  refine zI.of (cc := cBE_sort) (maxL := 4) (rt := .int) (by decide) rfl (Nat.le_of_ble_eq_true rfl) (fun _ _ _ => rfl) ?_
  intro p e s m args below meth c A ls Q hx hb hml hown hts hnm hK hD hA hAe hX hl hret H locs hP hS
  have hl : lv_has ls 4 [(0, .ref b), (1, .int (iI k))] := hl
  obtain ⟨tS, tC, hZS, hTS, hZC, hTC, hWn⟩ := id hX
  have hdr := det_rng k
  have htr := tr_rng k
  refine lv_aload_n hx hb dBE_sort_0 rfl (lv_at hl 0 rfl) ?_
  refine lv_iload_n hx hb dBE_sort_1 rfl (lv_at hl 1 rfl) ?_
  refine zI.back (va_runV (As := [.int (iI k)]) (rest := []) ⟨hx, hb, hml, hown, hts⟩ ((mBE_determinant l D cI cG b lf rt gl gr k hk) H.size) (cwV 1 hts (gT1 lkBE_22 (gT1 imBE_determinant (gT1 seBE_determinant (gT1 iniBE (gTW kcBE_determinant))))) rfl rfl rfl (by decide +kernel) ⟨Nat.le_of_ble_eq_true rfl, Nat.le_of_ble_eq_true rfl⟩) ⟨zPre_blind, va_recv hK hP (ci := 1) (q0 := 0) rfl rfl, zPre.at (wc := [(b, .inr (1, [.ref lf, .ref rt])), (lf, .inl (cI, 9, .inl (zf gl))), (rt, .inl (cI, 9, .inl (zf gr)))]) hK hP hD hS hA hX [0, 1, 2] (by decide) rfl⟩ rfl rfl hl.1 rfl (lv_room (Nat.le_of_ble_eq_true rfl)) dBE_sort_2 ⟨Nat.le_of_ble_eq_true rfl, Nat.le_of_ble_eq_true rfl⟩) (wr := []) hP hD hS hA [0, 1, 2] [] rfl rfl (by decide) (by decide) (fun z_2 u_2 H locs q_2 hP hD hS hz_2 hk_2 => ?_)
  obtain rfl : z_2 = detF (mdg k) := q_2
  have hP : va_P D vwCl [(b, .inr (1, [.ref lf, .ref rt])), (lf, .inl (cI, 9, .inl (zf (rd k gl)))), (rt, .inl (cI, 9, .inl (zf gr)))] H := hP
  have hD : va_D A [(b, .inr (1, [.ref lf, .ref rt])), (lf, .inl (cI, 9, .inl (zf (rd k gl)))), (rt, .inl (cI, 9, .inl (zf gr)))] := hD
  refine lv_istore_n (lv' := [(2, .int (iI (detF (mdg k)))), (0, .ref b), (1, .int (iI k))]) hx hb dBE_sort_5 rfl hl (by decide) rfl (fun ls hl => ?_)
  refine lv_iload_n hx hb dBE_sort_6 rfl (lv_at hl 0 rfl) ?_
  refine lv_iconst (v := iI (1)) hx hb dBE_sort_7 rfl ?_
  refine lz_icmp_eq (tgt := 18) hx hb dBE_sort_8 (by decide) (by omega) (by omega) (fun c_8 => ?_) (fun c_8 => ?_)
  · have hd1 : detF (mdg k) * trK k = trK k := by rw [c_8, Int.one_mul]
    refine lv_iload_n hx hb dBE_sort_18 rfl (lv_at hl 0 rfl) ?_
    refine lv_aload_n hx hb dBE_sort_19 rfl (lv_at hl 1 rfl) ?_
    refine va_get (D := D) (ci := 1) (v := .ref lf) (C := nBE) (T := fBE) (N := 2) hx hb hts iwBE hown hK hP 0 rfl rfl 0 (by decide) (hts _ (List.mem_cons_of_mem _ lkBE_9)) (fun _ h9 => h9) rfl dBE_sort_20 ?_
    refine lv_iconst (v := iI (0)) hx hb dBE_sort_23 rfl ?_
    refine lz_ialk hx hb hK hP 1 0 rfl rfl (z := 0) 0 rfl (by decide) dBE_sort_24 ?_
    refine lv_aload_n hx hb dBE_sort_25 rfl (lv_at hl 1 rfl) ?_
    refine va_get (D := D) (ci := 1) (v := .ref lf) (C := nBE) (T := fBE) (N := 2) hx hb hts iwBE hown hK hP 0 rfl rfl 0 (by decide) (hts _ (List.mem_cons_of_mem _ lkBE_9)) (fun _ h9 => h9) rfl dBE_sort_26 ?_
    refine lv_iconst (v := iI (4)) hx hb dBE_sort_29 rfl ?_
    refine lz_ialk hx hb hK hP 1 0 rfl rfl (z := 4) 4 rfl (by decide) dBE_sort_30 ?_
    refine lz_iadd hx hb dBE_sort_31 ?_
    refine lv_aload_n hx hb dBE_sort_32 rfl (lv_at hl 1 rfl) ?_
    refine va_get (D := D) (ci := 1) (v := .ref lf) (C := nBE) (T := fBE) (N := 2) hx hb hts iwBE hown hK hP 0 rfl rfl 0 (by decide) (hts _ (List.mem_cons_of_mem _ lkBE_9)) (fun _ h9 => h9) rfl dBE_sort_33 ?_
    refine lv_bipush (v := iI (8)) hx hb dBE_sort_36 (by decide) ?_
    refine lz_ialk hx hb hK hP 1 0 rfl rfl (z := 8) 8 rfl (by decide) dBE_sort_38 ?_
    refine lz_iadd hx hb dBE_sort_39 ?_
    refine lz_imul hx hb dBE_sort_40 ?_
    refine lv_iconst (v := iI (1)) hx hb dBE_sort_41 rfl ?_
    refine lz_iadd hx hb dBE_sort_42 ?_
    refine lz_as (x := ((detF (mdg k)) * ((((rd k gl) 0) + ((rd k gl) 4)) + ((rd k gl) 8))) + 1) (y := detF (mdg k) * trK k + 1) (rfl) ?_
    refine lv_istore_n (lv' := [(3, .int (iI (detF (mdg k) * trK k + 1))), (2, .int (iI (detF (mdg k)))), (0, .ref b), (1, .int (iI k))]) hx hb dBE_sort_43 rfl hl (by decide) rfl (fun ls hl => ?_)
    refine lv_iload_n hx hb dBE_sort_44 rfl (lv_at hl 0 rfl) ?_
    refine lz_if_lt (tgt := 66) hx hb dBE_sort_45 (by decide) (by omega) (fun c_45 => ?_) (fun c_45 => ?_)
    · refine lv_iconst (v := iI (0)) hx hb dBE_sort_66 rfl ?_
      exact hret H locs 0 0 67 ls 0 () (by
            unfold sortK
            rw [if_pos (by omega), if_neg (by omega)]) (hP.sub [0, 1, 2] rfl) (hD.sub [0, 1, 2] (by decide) rfl) hS (Nat.zero_le _) (Nat.zero_le _) dBE_sort_67
    · refine lv_iload_n hx hb dBE_sort_48 rfl (lv_at hl 0 rfl) ?_
      refine va_getsN hx hb hZS hS hown (hWn.2.2.use rfl) (fun _ h9 => h9) dBE_sort_49 ?_
      refine lz_tlen hx hb hTS hS dBE_sort_52 ?_
      refine lz_icmp_ge (tgt := 66) hx hb dBE_sort_53 (by decide) (by omega) (by omega) (fun c_53 => ?_) (fun c_53 => ?_)
      · refine lv_iconst (v := iI (0)) hx hb dBE_sort_66 rfl ?_
        exact hret H locs 0 0 67 ls 0 () (by
              unfold sortK
              rw [if_pos (by omega), if_neg (by omega)]) (hP.sub [0, 1, 2] rfl) (hD.sub [0, 1, 2] (by decide) rfl) hS (Nat.zero_le _) (Nat.zero_le _) dBE_sort_67
      · refine lv_iload_n hx hb dBE_sort_56 rfl (lv_at hl 1 rfl) ?_
        refine va_getsN hx hb hZS hS hown (hWn.2.2.use rfl) (fun _ h9 => h9) dBE_sort_57 ?_
        refine lv_iload_n hx hb dBE_sort_60 rfl (lv_at hl 0 rfl) ?_
        refine lz_tab hx hb hTS hS (z := detF (mdg k) * trK k + 1) (by omega) dBE_sort_61 ?_
        refine lz_imul hx hb dBE_sort_62 ?_
        refine lv_goto (tgt := 67) hx hb dBE_sort_63 (by decide) ?_
        exact hret H locs 0 0 67 ls ((detF (mdg k)) * (st_sorts.getD (detF (mdg k) * trK k + 1).toNat 0)) () (by
              unfold sortK
              rw [if_pos (by omega), if_pos (by omega)]) (hP.sub [0, 1, 2] rfl) (hD.sub [0, 1, 2] (by decide) rfl) hS (Nat.zero_le _) (Nat.zero_le _) dBE_sort_67
  · refine lv_iload_n hx hb dBE_sort_11 rfl (lv_at hl 0 rfl) ?_
    refine lv_iconst (v := iI (-1)) hx hb dBE_sort_12 rfl ?_
    refine lz_icmp_eq (tgt := 18) hx hb dBE_sort_13 (by decide) (by omega) (by omega) (fun c_13 => ?_) (fun c_13 => ?_)
    · have hd1 : detF (mdg k) * trK k = -trK k := by rw [c_13, Int.neg_one_mul]
      refine lv_iload_n hx hb dBE_sort_18 rfl (lv_at hl 0 rfl) ?_
      refine lv_aload_n hx hb dBE_sort_19 rfl (lv_at hl 1 rfl) ?_
      refine va_get (D := D) (ci := 1) (v := .ref lf) (C := nBE) (T := fBE) (N := 2) hx hb hts iwBE hown hK hP 0 rfl rfl 0 (by decide) (hts _ (List.mem_cons_of_mem _ lkBE_9)) (fun _ h9 => h9) rfl dBE_sort_20 ?_
      refine lv_iconst (v := iI (0)) hx hb dBE_sort_23 rfl ?_
      refine lz_ialk hx hb hK hP 1 0 rfl rfl (z := 0) 0 rfl (by decide) dBE_sort_24 ?_
      refine lv_aload_n hx hb dBE_sort_25 rfl (lv_at hl 1 rfl) ?_
      refine va_get (D := D) (ci := 1) (v := .ref lf) (C := nBE) (T := fBE) (N := 2) hx hb hts iwBE hown hK hP 0 rfl rfl 0 (by decide) (hts _ (List.mem_cons_of_mem _ lkBE_9)) (fun _ h9 => h9) rfl dBE_sort_26 ?_
      refine lv_iconst (v := iI (4)) hx hb dBE_sort_29 rfl ?_
      refine lz_ialk hx hb hK hP 1 0 rfl rfl (z := 4) 4 rfl (by decide) dBE_sort_30 ?_
      refine lz_iadd hx hb dBE_sort_31 ?_
      refine lv_aload_n hx hb dBE_sort_32 rfl (lv_at hl 1 rfl) ?_
      refine va_get (D := D) (ci := 1) (v := .ref lf) (C := nBE) (T := fBE) (N := 2) hx hb hts iwBE hown hK hP 0 rfl rfl 0 (by decide) (hts _ (List.mem_cons_of_mem _ lkBE_9)) (fun _ h9 => h9) rfl dBE_sort_33 ?_
      refine lv_bipush (v := iI (8)) hx hb dBE_sort_36 (by decide) ?_
      refine lz_ialk hx hb hK hP 1 0 rfl rfl (z := 8) 8 rfl (by decide) dBE_sort_38 ?_
      refine lz_iadd hx hb dBE_sort_39 ?_
      refine lz_imul hx hb dBE_sort_40 ?_
      refine lv_iconst (v := iI (1)) hx hb dBE_sort_41 rfl ?_
      refine lz_iadd hx hb dBE_sort_42 ?_
      refine lz_as (x := ((detF (mdg k)) * ((((rd k gl) 0) + ((rd k gl) 4)) + ((rd k gl) 8))) + 1) (y := detF (mdg k) * trK k + 1) (rfl) ?_
      refine lv_istore_n (lv' := [(3, .int (iI (detF (mdg k) * trK k + 1))), (2, .int (iI (detF (mdg k)))), (0, .ref b), (1, .int (iI k))]) hx hb dBE_sort_43 rfl hl (by decide) rfl (fun ls hl => ?_)
      refine lv_iload_n hx hb dBE_sort_44 rfl (lv_at hl 0 rfl) ?_
      refine lz_if_lt (tgt := 66) hx hb dBE_sort_45 (by decide) (by omega) (fun c_45 => ?_) (fun c_45 => ?_)
      · refine lv_iconst (v := iI (0)) hx hb dBE_sort_66 rfl ?_
        exact hret H locs 0 0 67 ls 0 () (by
              unfold sortK
              rw [if_pos (by omega), if_neg (by omega)]) (hP.sub [0, 1, 2] rfl) (hD.sub [0, 1, 2] (by decide) rfl) hS (Nat.zero_le _) (Nat.zero_le _) dBE_sort_67
      · refine lv_iload_n hx hb dBE_sort_48 rfl (lv_at hl 0 rfl) ?_
        refine va_getsN hx hb hZS hS hown (hWn.2.2.use rfl) (fun _ h9 => h9) dBE_sort_49 ?_
        refine lz_tlen hx hb hTS hS dBE_sort_52 ?_
        refine lz_icmp_ge (tgt := 66) hx hb dBE_sort_53 (by decide) (by omega) (by omega) (fun c_53 => ?_) (fun c_53 => ?_)
        · refine lv_iconst (v := iI (0)) hx hb dBE_sort_66 rfl ?_
          exact hret H locs 0 0 67 ls 0 () (by
                unfold sortK
                rw [if_pos (by omega), if_neg (by omega)]) (hP.sub [0, 1, 2] rfl) (hD.sub [0, 1, 2] (by decide) rfl) hS (Nat.zero_le _) (Nat.zero_le _) dBE_sort_67
        · refine lv_iload_n hx hb dBE_sort_56 rfl (lv_at hl 1 rfl) ?_
          refine va_getsN hx hb hZS hS hown (hWn.2.2.use rfl) (fun _ h9 => h9) dBE_sort_57 ?_
          refine lv_iload_n hx hb dBE_sort_60 rfl (lv_at hl 0 rfl) ?_
          refine lz_tab hx hb hTS hS (z := detF (mdg k) * trK k + 1) (by omega) dBE_sort_61 ?_
          refine lz_imul hx hb dBE_sort_62 ?_
          refine lv_goto (tgt := 67) hx hb dBE_sort_63 (by decide) ?_
          exact hret H locs 0 0 67 ls ((detF (mdg k)) * (st_sorts.getD (detF (mdg k) * trK k + 1).toNat 0)) () (by
                unfold sortK
                rw [if_pos (by omega), if_pos (by omega)]) (hP.sub [0, 1, 2] rfl) (hD.sub [0, 1, 2] (by decide) rfl) hS (Nat.zero_le _) (Nat.zero_le _) dBE_sort_67
    · refine lv_iconst (v := iI (0)) hx hb dBE_sort_16 rfl ?_
      exact hret H locs 0 0 17 ls 0 () (by
            unfold sortK
            rw [if_neg (by omega)]) (hP.sub [0, 1, 2] rfl) (hD.sub [0, 1, 2] (by decide) rfl) hS (Nat.zero_le _) (Nat.zero_le _) dBE_sort_17

def rmBE_movedByLeft : Room := { frames := 0, cells := 0, slots := 0, locals := 0 }
set_option maxHeartbeats 4000000 in
set_option maxRecDepth 100000 in
theorem mBE_movedByLeft (l : Launch) (D : va_G) (cI cG : ClassId) (b lf rt : Nat) (g : Nat → Int) (sh x : Int) (hg : ∀ j, j < 9 → -1 ≤ g j ∧ g j ≤ 1) (hs : isPl sh) (hx1 : isPl x) : zRI l yBE_movedByLeft wBE_movedByLeft rmBE_movedByLeft D vwCl (zT cI cG) [.ref b, .int (iI sh), .int (iI x)] [(b, .inr (1, [.ref lf, .ref rt])), (lf, .inl (cI, 9, .inl (zf g)))] (fun z => z = movF g sh x) := by
  refine zRI.of (cc := cBE_movedByLeft) (maxL := 9) (rt := .int) (by decide) rfl (Nat.le_of_ble_eq_true rfl) (fun _ _ => rfl) ?_
  intro p e s m args below meth c ls Q hx hb hml hown hts hK hP hX hl hret
  have hS0 : va_S (fun _ => False) s.heap s.heap [] := va_S.rf
  have hl : lv_has ls 9 [(0, .ref b), (1, .int (iI sh)), (2, .int (iI x))] := hl
  unfold isPl at hs hx1
  have l1 := line_rng (hg 0 (by decide)) (hg 1 (by decide)) (hg 2 (by decide)) (x := x / 576) (y := x / 24 % 24) (z := x % 24) (s := sh / 576) (by omega) (by omega) (by omega) (by omega)
  have l2 := line_rng (hg 3 (by decide)) (hg 4 (by decide)) (hg 5 (by decide)) (x := x / 576) (y := x / 24 % 24) (z := x % 24) (s := sh / 24 % 24) (by omega) (by omega) (by omega) (by omega)
  have l3 := line_rng (hg 6 (by decide)) (hg 7 (by decide)) (hg 8 (by decide)) (x := x / 576) (y := x / 24 % 24) (z := x % 24) (s := sh % 24) (by omega) (by omega) (by omega) (by omega)
  refine lv_iload_n hx hb dBE_movedByLeft_0 rfl (lv_at hl 2 rfl) ?_
  refine lv_sipush (v := iI (576)) hx hb dBE_movedByLeft_1 (by decide) ?_
  refine lz_idiv hx hb dBE_movedByLeft_4 (by omega) (by omega) ?_
  refine lv_istore_n (lv' := [(3, .int (iI (x / 576))), (0, .ref b), (1, .int (iI sh)), (2, .int (iI x))]) hx hb dBE_movedByLeft_5 rfl hl (by decide) rfl (fun ls hl => ?_)
  refine lv_iload_n hx hb dBE_movedByLeft_6 rfl (lv_at hl 3 rfl) ?_
  refine lv_bipush (v := iI (24)) hx hb dBE_movedByLeft_7 (by decide) ?_
  refine lz_idiv hx hb dBE_movedByLeft_9 (by omega) (by omega) ?_
  refine lv_bipush (v := iI (24)) hx hb dBE_movedByLeft_10 (by decide) ?_
  refine lz_irem hx hb dBE_movedByLeft_12 (by omega) (by omega) ?_
  refine lv_istore (lv' := [(4, .int (iI ((x / 24) % 24))), (3, .int (iI (x / 576))), (0, .ref b), (1, .int (iI sh)), (2, .int (iI x))]) hx hb dBE_movedByLeft_13 hl (by decide) rfl (fun ls hl => ?_)
  refine lv_iload_n hx hb dBE_movedByLeft_15 rfl (lv_at hl 4 rfl) ?_
  refine lv_bipush (v := iI (24)) hx hb dBE_movedByLeft_16 (by decide) ?_
  refine lz_irem hx hb dBE_movedByLeft_18 (by omega) (by omega) ?_
  refine lv_istore (lv' := [(5, .int (iI (x % 24))), (4, .int (iI ((x / 24) % 24))), (3, .int (iI (x / 576))), (0, .ref b), (1, .int (iI sh)), (2, .int (iI x))]) hx hb dBE_movedByLeft_19 hl (by decide) rfl (fun ls hl => ?_)
  refine lv_aload_n hx hb dBE_movedByLeft_21 rfl (lv_at hl 3 rfl) ?_
  refine va_get (D := D) (ci := 1) (v := .ref lf) (C := nBE) (T := fBE) (N := 2) hx hb hts iwBE hown hK hP 0 rfl rfl 0 (by decide) (hts _ (List.mem_cons_of_mem _ lkBE_9)) (fun _ h9 => h9) rfl dBE_movedByLeft_22 ?_
  refine lv_iconst (v := iI (0)) hx hb dBE_movedByLeft_25 rfl ?_
  refine lz_ialk hx hb hK hP 1 0 rfl rfl (z := 0) 0 rfl (by decide) dBE_movedByLeft_26 ?_
  refine lv_iload_n hx hb dBE_movedByLeft_27 rfl (lv_at hl 2 rfl) ?_
  refine lz_imul hx hb dBE_movedByLeft_28 ?_
  refine lv_aload_n hx hb dBE_movedByLeft_29 rfl (lv_at hl 3 rfl) ?_
  refine va_get (D := D) (ci := 1) (v := .ref lf) (C := nBE) (T := fBE) (N := 2) hx hb hts iwBE hown hK hP 0 rfl rfl 0 (by decide) (hts _ (List.mem_cons_of_mem _ lkBE_9)) (fun _ h9 => h9) rfl dBE_movedByLeft_30 ?_
  refine lv_iconst (v := iI (1)) hx hb dBE_movedByLeft_33 rfl ?_
  refine lz_ialk hx hb hK hP 1 0 rfl rfl (z := 1) 1 rfl (by decide) dBE_movedByLeft_34 ?_
  refine lv_iload hx hb dBE_movedByLeft_35 (lv_at hl 1 rfl) ?_
  refine lz_imul hx hb dBE_movedByLeft_37 ?_
  refine lz_iadd hx hb dBE_movedByLeft_38 ?_
  refine lv_aload_n hx hb dBE_movedByLeft_39 rfl (lv_at hl 3 rfl) ?_
  refine va_get (D := D) (ci := 1) (v := .ref lf) (C := nBE) (T := fBE) (N := 2) hx hb hts iwBE hown hK hP 0 rfl rfl 0 (by decide) (hts _ (List.mem_cons_of_mem _ lkBE_9)) (fun _ h9 => h9) rfl dBE_movedByLeft_40 ?_
  refine lv_iconst (v := iI (2)) hx hb dBE_movedByLeft_43 rfl ?_
  refine lz_ialk hx hb hK hP 1 0 rfl rfl (z := 2) 2 rfl (by decide) dBE_movedByLeft_44 ?_
  refine lv_iload hx hb dBE_movedByLeft_45 (lv_at hl 0 rfl) ?_
  refine lz_imul hx hb dBE_movedByLeft_47 ?_
  refine lz_iadd hx hb dBE_movedByLeft_48 ?_
  refine lv_iload_n hx hb dBE_movedByLeft_49 rfl (lv_at hl 4 rfl) ?_
  refine lv_sipush (v := iI (576)) hx hb dBE_movedByLeft_50 (by decide) ?_
  refine lz_idiv hx hb dBE_movedByLeft_53 (by omega) (by omega) ?_
  refine lz_iadd hx hb dBE_movedByLeft_54 ?_
  refine lv_istore (lv' := [(6, .int (iI (((((g 0) * (x / 576)) + ((g 1) * ((x / 24) % 24))) + ((g 2) * (x % 24))) + (sh / 576)))), (5, .int (iI (x % 24))), (4, .int (iI ((x / 24) % 24))), (3, .int (iI (x / 576))), (0, .ref b), (1, .int (iI sh)), (2, .int (iI x))]) hx hb dBE_movedByLeft_55 hl (by decide) rfl (fun ls hl => ?_)
  refine lv_aload_n hx hb dBE_movedByLeft_57 rfl (lv_at hl 4 rfl) ?_
  refine va_get (D := D) (ci := 1) (v := .ref lf) (C := nBE) (T := fBE) (N := 2) hx hb hts iwBE hown hK hP 0 rfl rfl 0 (by decide) (hts _ (List.mem_cons_of_mem _ lkBE_9)) (fun _ h9 => h9) rfl dBE_movedByLeft_58 ?_
  refine lv_iconst (v := iI (3)) hx hb dBE_movedByLeft_61 rfl ?_
  refine lz_ialk hx hb hK hP 1 0 rfl rfl (z := 3) 3 rfl (by decide) dBE_movedByLeft_62 ?_
  refine lv_iload_n hx hb dBE_movedByLeft_63 rfl (lv_at hl 3 rfl) ?_
  refine lz_imul hx hb dBE_movedByLeft_64 ?_
  refine lv_aload_n hx hb dBE_movedByLeft_65 rfl (lv_at hl 4 rfl) ?_
  refine va_get (D := D) (ci := 1) (v := .ref lf) (C := nBE) (T := fBE) (N := 2) hx hb hts iwBE hown hK hP 0 rfl rfl 0 (by decide) (hts _ (List.mem_cons_of_mem _ lkBE_9)) (fun _ h9 => h9) rfl dBE_movedByLeft_66 ?_
  refine lv_iconst (v := iI (4)) hx hb dBE_movedByLeft_69 rfl ?_
  refine lz_ialk hx hb hK hP 1 0 rfl rfl (z := 4) 4 rfl (by decide) dBE_movedByLeft_70 ?_
  refine lv_iload hx hb dBE_movedByLeft_71 (lv_at hl 2 rfl) ?_
  refine lz_imul hx hb dBE_movedByLeft_73 ?_
  refine lz_iadd hx hb dBE_movedByLeft_74 ?_
  refine lv_aload_n hx hb dBE_movedByLeft_75 rfl (lv_at hl 4 rfl) ?_
  refine va_get (D := D) (ci := 1) (v := .ref lf) (C := nBE) (T := fBE) (N := 2) hx hb hts iwBE hown hK hP 0 rfl rfl 0 (by decide) (hts _ (List.mem_cons_of_mem _ lkBE_9)) (fun _ h9 => h9) rfl dBE_movedByLeft_76 ?_
  refine lv_iconst (v := iI (5)) hx hb dBE_movedByLeft_79 rfl ?_
  refine lz_ialk hx hb hK hP 1 0 rfl rfl (z := 5) 5 rfl (by decide) dBE_movedByLeft_80 ?_
  refine lv_iload hx hb dBE_movedByLeft_81 (lv_at hl 1 rfl) ?_
  refine lz_imul hx hb dBE_movedByLeft_83 ?_
  refine lz_iadd hx hb dBE_movedByLeft_84 ?_
  refine lv_iload_n hx hb dBE_movedByLeft_85 rfl (lv_at hl 5 rfl) ?_
  refine lv_bipush (v := iI (24)) hx hb dBE_movedByLeft_86 (by decide) ?_
  refine lz_idiv hx hb dBE_movedByLeft_88 (by omega) (by omega) ?_
  refine lv_bipush (v := iI (24)) hx hb dBE_movedByLeft_89 (by decide) ?_
  refine lz_irem hx hb dBE_movedByLeft_91 (by omega) (by omega) ?_
  refine lz_iadd hx hb dBE_movedByLeft_92 ?_
  refine lv_istore (lv' := [(7, .int (iI (((((g 3) * (x / 576)) + ((g 4) * ((x / 24) % 24))) + ((g 5) * (x % 24))) + ((sh / 24) % 24)))), (6, .int (iI (((((g 0) * (x / 576)) + ((g 1) * ((x / 24) % 24))) + ((g 2) * (x % 24))) + (sh / 576)))), (5, .int (iI (x % 24))), (4, .int (iI ((x / 24) % 24))), (3, .int (iI (x / 576))), (0, .ref b), (1, .int (iI sh)), (2, .int (iI x))]) hx hb dBE_movedByLeft_93 hl (by decide) rfl (fun ls hl => ?_)
  refine lv_aload_n hx hb dBE_movedByLeft_95 rfl (lv_at hl 5 rfl) ?_
  refine va_get (D := D) (ci := 1) (v := .ref lf) (C := nBE) (T := fBE) (N := 2) hx hb hts iwBE hown hK hP 0 rfl rfl 0 (by decide) (hts _ (List.mem_cons_of_mem _ lkBE_9)) (fun _ h9 => h9) rfl dBE_movedByLeft_96 ?_
  refine lv_bipush (v := iI (6)) hx hb dBE_movedByLeft_99 (by decide) ?_
  refine lz_ialk hx hb hK hP 1 0 rfl rfl (z := 6) 6 rfl (by decide) dBE_movedByLeft_101 ?_
  refine lv_iload_n hx hb dBE_movedByLeft_102 rfl (lv_at hl 4 rfl) ?_
  refine lz_imul hx hb dBE_movedByLeft_103 ?_
  refine lv_aload_n hx hb dBE_movedByLeft_104 rfl (lv_at hl 5 rfl) ?_
  refine va_get (D := D) (ci := 1) (v := .ref lf) (C := nBE) (T := fBE) (N := 2) hx hb hts iwBE hown hK hP 0 rfl rfl 0 (by decide) (hts _ (List.mem_cons_of_mem _ lkBE_9)) (fun _ h9 => h9) rfl dBE_movedByLeft_105 ?_
  refine lv_bipush (v := iI (7)) hx hb dBE_movedByLeft_108 (by decide) ?_
  refine lz_ialk hx hb hK hP 1 0 rfl rfl (z := 7) 7 rfl (by decide) dBE_movedByLeft_110 ?_
  refine lv_iload hx hb dBE_movedByLeft_111 (lv_at hl 3 rfl) ?_
  refine lz_imul hx hb dBE_movedByLeft_113 ?_
  refine lz_iadd hx hb dBE_movedByLeft_114 ?_
  refine lv_aload_n hx hb dBE_movedByLeft_115 rfl (lv_at hl 5 rfl) ?_
  refine va_get (D := D) (ci := 1) (v := .ref lf) (C := nBE) (T := fBE) (N := 2) hx hb hts iwBE hown hK hP 0 rfl rfl 0 (by decide) (hts _ (List.mem_cons_of_mem _ lkBE_9)) (fun _ h9 => h9) rfl dBE_movedByLeft_116 ?_
  refine lv_bipush (v := iI (8)) hx hb dBE_movedByLeft_119 (by decide) ?_
  refine lz_ialk hx hb hK hP 1 0 rfl rfl (z := 8) 8 rfl (by decide) dBE_movedByLeft_121 ?_
  refine lv_iload hx hb dBE_movedByLeft_122 (lv_at hl 2 rfl) ?_
  refine lz_imul hx hb dBE_movedByLeft_124 ?_
  refine lz_iadd hx hb dBE_movedByLeft_125 ?_
  refine lv_iload_n hx hb dBE_movedByLeft_126 rfl (lv_at hl 6 rfl) ?_
  refine lv_bipush (v := iI (24)) hx hb dBE_movedByLeft_127 (by decide) ?_
  refine lz_irem hx hb dBE_movedByLeft_129 (by omega) (by omega) ?_
  refine lz_iadd hx hb dBE_movedByLeft_130 ?_
  refine lv_istore (lv' := [(8, .int (iI (((((g 6) * (x / 576)) + ((g 7) * ((x / 24) % 24))) + ((g 8) * (x % 24))) + (sh % 24)))), (7, .int (iI (((((g 3) * (x / 576)) + ((g 4) * ((x / 24) % 24))) + ((g 5) * (x % 24))) + ((sh / 24) % 24)))), (6, .int (iI (((((g 0) * (x / 576)) + ((g 1) * ((x / 24) % 24))) + ((g 2) * (x % 24))) + (sh / 576)))), (5, .int (iI (x % 24))), (4, .int (iI ((x / 24) % 24))), (3, .int (iI (x / 576))), (0, .ref b), (1, .int (iI sh)), (2, .int (iI x))]) hx hb dBE_movedByLeft_131 hl (by decide) rfl (fun ls hl => ?_)
  refine lv_iload hx hb dBE_movedByLeft_133 (lv_at hl 2 rfl) ?_
  refine lv_bipush (v := iI (72)) hx hb dBE_movedByLeft_135 (by decide) ?_
  refine lz_iadd hx hb dBE_movedByLeft_137 ?_
  refine lv_bipush (v := iI (24)) hx hb dBE_movedByLeft_138 (by decide) ?_
  refine lz_irem hx hb dBE_movedByLeft_140 (by omega) (by omega) ?_
  refine lv_bipush (v := iI (24)) hx hb dBE_movedByLeft_141 (by decide) ?_
  refine lz_imul hx hb dBE_movedByLeft_143 ?_
  refine lv_iload hx hb dBE_movedByLeft_144 (lv_at hl 1 rfl) ?_
  refine lv_bipush (v := iI (72)) hx hb dBE_movedByLeft_146 (by decide) ?_
  refine lz_iadd hx hb dBE_movedByLeft_148 ?_
  refine lv_bipush (v := iI (24)) hx hb dBE_movedByLeft_149 (by decide) ?_
  refine lz_irem hx hb dBE_movedByLeft_151 (by omega) (by omega) ?_
  refine lz_iadd hx hb dBE_movedByLeft_152 ?_
  refine lv_bipush (v := iI (24)) hx hb dBE_movedByLeft_153 (by decide) ?_
  refine lz_imul hx hb dBE_movedByLeft_155 ?_
  refine lv_iload hx hb dBE_movedByLeft_156 (lv_at hl 0 rfl) ?_
  refine lv_bipush (v := iI (72)) hx hb dBE_movedByLeft_158 (by decide) ?_
  refine lz_iadd hx hb dBE_movedByLeft_160 ?_
  refine lv_bipush (v := iI (24)) hx hb dBE_movedByLeft_161 (by decide) ?_
  refine lz_irem hx hb dBE_movedByLeft_163 (by omega) (by omega) ?_
  refine lz_iadd hx hb dBE_movedByLeft_164 ?_
  exact hret 165 ls (((((((((((g 0) * (x / 576)) + ((g 1) * ((x / 24) % 24))) + ((g 2) * (x % 24))) + (sh / 576)) + 72) % 24) * 24) + (((((((g 3) * (x / 576)) + ((g 4) * ((x / 24) % 24))) + ((g 5) * (x % 24))) + ((sh / 24) % 24)) + 72) % 24)) * 24) + (((((((g 6) * (x / 576)) + ((g 7) * ((x / 24) % 24))) + ((g 8) * (x % 24))) + (sh % 24)) + 72) % 24)) rfl dBE_movedByLeft_165

def rmBE_times : Room := { frames := 1, cells := 0, slots := 0, locals := 28 }
set_option maxHeartbeats 4000000 in
set_option maxRecDepth 100000 in
theorem mBE_times (l : Launch) (D : va_G) (cI cG : ClassId) (b lf rt : Nat) (gl gr : Nat → Int) (p1 q1 : Int) (hp1 : kOK p1) (hq1 : kOK q1) : zI l yBE_times wBE_times rmBE_times D vwCl (zT cI cG) [.ref b, .int (iI p1), .int (iI q1)] [(b, .inr (1, [.ref lf, .ref rt])), (lf, .inl (cI, 9, .inl (zf gl))), (rt, .inl (cI, 9, .inl (zf gr)))] (S := Unit) (fun z u => z = timesK p1 q1) (fun u => [(b, .inr (1, [.ref lf, .ref rt])), (lf, .inl (cI, 9, .inl (zf (rd p1 gl)))), (rt, .inl (cI, 9, .inl (zf (rd q1 gr))))]) := by
  refine zI.of (cc := cBE_times) (maxL := 7) (rt := .int) (by decide) rfl (Nat.le_of_ble_eq_true rfl) (fun _ _ _ => rfl) ?_
  intro p e s m args below meth c A ls Q hx hb hml hown hts hnm hK hD hA hAe hX hl hret H locs hP hS
  have hl : lv_has ls 7 [(0, .ref b), (1, .int (iI p1)), (2, .int (iI q1))] := hl
  have hp2 := hp1
  have hq2 := hq1
  unfold kOK at hp2 hq2
  refine lv_iload_n hx hb dBE_times_0 rfl (lv_at hl 1 rfl) ?_
  refine lv_aload_n hx hb dBE_times_1 rfl (lv_at hl 0 rfl) ?_
  refine va_get (D := D) (ci := 1) (v := .ref lf) (C := nBE) (T := fBE) (N := 2) hx hb hts iwBE hown hK hP 0 rfl rfl 0 (by decide) (hts _ (List.mem_cons_of_mem _ lkBE_9)) (fun _ h9 => h9) rfl dBE_times_2 ?_
  refine zV.back (va_runS (As := [.int (iI p1), .ref lf]) (rest := []) ⟨hx, hb, hml, hown, hts⟩ ((mBE_read l D cI cG lf gl p1 (by omega)) H.size) (va_cwS 2 hts (gT1 lkBE_18 (gT1 smBE_read (gT1 iniBE (gTW kcBE_read)))) rfl rfl rfl (by decide +kernel) ⟨Nat.le_of_ble_eq_true rfl, Nat.le_of_ble_eq_true rfl⟩) ⟨zPre_blind, zPre.at (wc := [(lf, .inl (cI, 9, .inl (zf gl)))]) hK hP hD hS hA hX [1] (by decide) rfl⟩ rfl rfl hl.1 rfl (lv_room (Nat.le_of_ble_eq_true rfl)) dBE_times_5 ⟨Nat.le_of_ble_eq_true rfl, Nat.le_of_ble_eq_true rfl⟩) (wr := [(b, .inr (1, [.ref lf, .ref rt])), (rt, .inl (cI, 9, .inl (zf gr)))]) hP hD hS hA [1] [0, 2] rfl rfl (by decide) (by decide) (fun u_5 H locs q_5 hP hD hS hz_5 hk_5 => ?_)
  have hP : va_P D vwCl [(b, .inr (1, [.ref lf, .ref rt])), (rt, .inl (cI, 9, .inl (zf gr))), (lf, .inl (cI, 9, .inl (zf (rd p1 gl))))] H := hP
  have hD : va_D A [(b, .inr (1, [.ref lf, .ref rt])), (rt, .inl (cI, 9, .inl (zf gr))), (lf, .inl (cI, 9, .inl (zf (rd p1 gl))))] := hD
  refine lv_iload_n hx hb dBE_times_8 rfl (lv_at hl 2 rfl) ?_
  refine lv_aload_n hx hb dBE_times_9 rfl (lv_at hl 0 rfl) ?_
  refine va_get (D := D) (ci := 1) (v := .ref rt) (C := nBE) (T := fBE) (N := 2) hx hb hts iwBE hown hK hP 0 rfl rfl 1 (by decide) (hts _ (List.mem_cons_of_mem _ lkBE_15)) (fun _ h9 => h9) rfl dBE_times_10 ?_
  refine zV.back (va_runS (As := [.int (iI q1), .ref rt]) (rest := []) ⟨hx, hb, hml, hown, hts⟩ ((mBE_read l D cI cG rt gr q1 (by omega)) H.size) (va_cwS 2 hts (gT1 lkBE_18 (gT1 smBE_read (gT1 iniBE (gTW kcBE_read)))) rfl rfl rfl (by decide +kernel) ⟨Nat.le_of_ble_eq_true rfl, Nat.le_of_ble_eq_true rfl⟩) ⟨zPre_blind, zPre.at (wc := [(rt, .inl (cI, 9, .inl (zf gr)))]) hK hP hD hS hA hX [1] (by decide) rfl⟩ rfl rfl hl.1 rfl (lv_room (Nat.le_of_ble_eq_true rfl)) dBE_times_13 ⟨Nat.le_of_ble_eq_true rfl, Nat.le_of_ble_eq_true rfl⟩) (wr := [(b, .inr (1, [.ref lf, .ref rt])), (lf, .inl (cI, 9, .inl (zf (rd p1 gl))))]) hP hD hS hA [1] [0, 2] rfl rfl (by decide) (by decide) (fun u_13 H locs q_13 hP hD hS hz_13 hk_13 => ?_)
  have hP : va_P D vwCl [(b, .inr (1, [.ref lf, .ref rt])), (lf, .inl (cI, 9, .inl (zf (rd p1 gl)))), (rt, .inl (cI, 9, .inl (zf (rd q1 gr))))] H := hP
  have hD : va_D A [(b, .inr (1, [.ref lf, .ref rt])), (lf, .inl (cI, 9, .inl (zf (rd p1 gl)))), (rt, .inl (cI, 9, .inl (zf (rd q1 gr))))] := hD
  refine lv_iconst (v := iI (0)) hx hb dBE_times_16 rfl ?_
  refine lv_istore_n (lv' := [(3, .int (iI 0)), (0, .ref b), (1, .int (iI p1)), (2, .int (iI q1))]) hx hb dBE_times_17 rfl hl (by decide) rfl (fun ls hl => ?_)
  refine lv_iconst (v := iI (0)) hx hb dBE_times_18 rfl ?_
  refine lv_istore (lv' := [(4, .int (iI 0)), (3, .int (iI 0)), (0, .ref b), (1, .int (iI p1)), (2, .int (iI q1))]) hx hb dBE_times_19 hl (by decide) rfl (fun ls hl => ?_)
  have lp21 : ∀ (n9 : Nat) (rr : Nat), (rr ≤ 3) → (prodIn p1 q1 (3 * rr)) → (3 - rr) < n9 → ∀ (H : Heap) (locs : List Loc), va_P D vwCl [(b, .inr (1, [.ref lf, .ref rt])), (lf, .inl (cI, 9, .inl (zf (rd p1 gl)))), (rt, .inl (cI, 9, .inl (zf (rd q1 gr))))] H → va_D A [(b, .inr (1, [.ref lf, .ref rt])), (lf, .inl (cI, 9, .inl (zf (rd p1 gl)))), (rt, .inl (cI, 9, .inl (zf (rd q1 gr))))] → va_S A s.heap H locs → ∀ (ls : Array Slot), lv_has ls 7 [(0, .ref b), (1, .int (iI p1)), (2, .int (iI q1)), (3, .int (iI (nineP p1 q1 (3 * rr)))), (4, .int (iI (3 * (rr : Int))))] → W p l e (headSpec wBE_times rmBE_times).room s m args below meth c H locs 0 0 Q (F0 m 21 ls []) := by
    intro n9
    induction n9 with
    | zero => intro rr hrr hpi hm; exact absurd hm (Nat.not_lt_zero _)
    | succ n9 ih21 =>
      intro rr hrr hpi hm21 H locs hP hD hS ls hl
      refine lv_iload hx hb dBE_times_21 (lv_at hl 4 rfl) ?_
      refine lv_bipush (v := iI (9)) hx hb dBE_times_23 (by decide) ?_
      refine lz_icmp_ge (tgt := 130) hx hb dBE_times_25 (by decide) (by omega) (by omega) (fun c_25 => ?_) (fun c_25 => ?_)
      · have hr3 : rr = 3 := by omega
        refine lv_iload_n hx hb dBE_times_130 rfl (lv_at hl 3 rfl) ?_
        refine lv_sipush (v := iI (13824)) hx hb dBE_times_131 (by decide) ?_
        refine lz_imul hx hb dBE_times_134 ?_
        refine lv_aload_n hx hb dBE_times_135 rfl (lv_at hl 0 rfl) ?_
        refine lv_iload_n hx hb dBE_times_136 rfl (lv_at hl 1 rfl) ?_
        refine lv_sipush (v := iI (13824)) hx hb dBE_times_137 (by decide) ?_
        refine lz_irem hx hb dBE_times_140 (by omega) (by omega) ?_
        refine lv_iload_n hx hb dBE_times_141 rfl (lv_at hl 2 rfl) ?_
        refine lv_sipush (v := iI (13824)) hx hb dBE_times_142 (by decide) ?_
        refine lz_irem hx hb dBE_times_145 (by omega) (by omega) ?_
        refine zRI.back ((va_runV (As := [.int (iI (p1 % 13824)), .int (iI (q1 % 13824))]) (rest := [.int (iI ((nineP p1 q1 (3 * rr)) * 13824))]) ⟨hx, hb, hml, hown, hts⟩ (mBE_movedByLeft l D cI cG b lf rt (rd p1 gl) (p1 % 13824) (q1 % 13824) (rd_in _ _) (by unfold isPl; omega) (by unfold isPl; omega)) (cwV 2 hts (gT1 lkBE_29 (gT1 imBE_movedByLeft (gT1 seBE_movedByLeft (gT1 iniBE (gTW kcBE_movedByLeft))))) rfl rfl rfl (by decide +kernel) ⟨Nat.le_of_ble_eq_true rfl, Nat.le_of_ble_eq_true rfl⟩) ⟨zRd_blind, va_recv hK hP (ci := 1) (q0 := 0) rfl rfl, zRd.at (wc := [(b, .inr (1, [.ref lf, .ref rt])), (lf, .inl (cI, 9, .inl (zf (rd p1 gl))))]) hK (hP.sub (ws' := [(b, .inr (1, [.ref lf, .ref rt])), (lf, .inl (cI, 9, .inl (zf (rd p1 gl))))]) [0, 1] rfl) (stF.now hX hS)⟩ rfl rfl hl.1 rfl (lv_room (Nat.le_of_ble_eq_true rfl)) dBE_times_146 ⟨Nat.le_of_ble_eq_true rfl, Nat.le_of_ble_eq_true rfl⟩).run) (fun z_146 q_146 => ?_)
        obtain rfl : z_146 = movF (rd p1 gl) (p1 % 13824) (q1 % 13824) := q_146
        refine lz_iadd hx hb dBE_times_149 ?_
        exact hret H locs 0 0 150 ls (((nineP p1 q1 (3 * rr)) * 13824) + (movF (rd p1 gl) (p1 % 13824) (q1 % 13824))) () (by
              subst hr3
              unfold timesK
              rw [if_pos (show ∀ t, t < 9 → -1 ≤ prodD p1 q1 t ∧ prodD p1 q1 t ≤ 1 from hpi)]
              rfl) (hP.sub [0, 1, 2] rfl) (hD.sub [0, 1, 2] (by decide) rfl) hS (Nat.zero_le _) (Nat.zero_le _) dBE_times_150
      · refine lv_iconst (v := iI (0)) hx hb dBE_times_28 rfl ?_
        refine lv_istore (lv' := [(5, .int (iI 0)), (0, .ref b), (1, .int (iI p1)), (2, .int (iI q1)), (3, .int (iI (nineP p1 q1 (3 * rr)))), (4, .int (iI (3 * (rr : Int))))]) hx hb dBE_times_29 hl (by decide) rfl (fun ls hl => ?_)
        have lp31 : ∀ (n9 : Nat) (cc9 : Nat), (cc9 ≤ 3) → (prodIn p1 q1 (3 * rr + cc9)) → (3 - cc9) < n9 → ∀ (H : Heap) (locs : List Loc), va_P D vwCl [(b, .inr (1, [.ref lf, .ref rt])), (lf, .inl (cI, 9, .inl (zf (rd p1 gl)))), (rt, .inl (cI, 9, .inl (zf (rd q1 gr))))] H → va_D A [(b, .inr (1, [.ref lf, .ref rt])), (lf, .inl (cI, 9, .inl (zf (rd p1 gl)))), (rt, .inl (cI, 9, .inl (zf (rd q1 gr))))] → va_S A s.heap H locs → ∀ (ls : Array Slot), lv_has ls 7 [(0, .ref b), (1, .int (iI p1)), (2, .int (iI q1)), (3, .int (iI (nineP p1 q1 (3 * rr + cc9)))), (4, .int (iI (3 * (rr : Int)))), (5, .int (iI (cc9 : Int)))] → W p l e (headSpec wBE_times rmBE_times).room s m args below meth c H locs 0 0 Q (F0 m 31 ls []) := by
          intro n9
          induction n9 with
          | zero => intro cc9 hcc hpc hm; exact absurd hm (Nat.not_lt_zero _)
          | succ n9 ih31 =>
            intro cc9 hcc hpc hm31 H locs hP hD hS ls hl
            refine lv_iload hx hb dBE_times_31 (lv_at hl 5 rfl) ?_
            refine lv_iconst (v := iI (3)) hx hb dBE_times_33 rfl ?_
            refine lz_icmp_ge (tgt := 124) hx hb dBE_times_34 (by decide) (by omega) (by omega) (fun c_34 => ?_) (fun c_34 => ?_)
            · have hc3 : cc9 = 3 := by omega
              refine lz_iinc (lv' := [(4, .int (iI ((3 * (rr : Int)) + 3))), (0, .ref b), (1, .int (iI p1)), (2, .int (iI q1)), (3, .int (iI (nineP p1 q1 (3 * rr + cc9)))), (5, .int (iI (cc9 : Int)))]) hx hb dBE_times_124 hl (k := 4) rfl (by decide) rfl (fun ls hl => ?_)
              refine lv_goto (tgt := 21) hx hb dBE_times_127 (by decide) ?_
              rw [show nineP p1 q1 (3 * rr + cc9) = nineP p1 q1 (3 * (rr + 1)) from by rw [hc3, show 3 * rr + 3 = 3 * (rr + 1) by omega]] at hl
              exact ih21 (rr + 1) (by omega) (fun t ht => hpc t (by omega)) (by omega) _ _ (hP.sub [0, 1, 2] rfl) (hD.sub [0, 1, 2] (by decide) rfl) hS _ (lv_sub hl [1, 2, 3, 4, 0] rfl)
            · refine lv_aload_n hx hb dBE_times_37 rfl (lv_at hl 0 rfl) ?_
              refine va_get (D := D) (ci := 1) (v := .ref lf) (C := nBE) (T := fBE) (N := 2) hx hb hts iwBE hown hK hP 0 rfl rfl 0 (by decide) (hts _ (List.mem_cons_of_mem _ lkBE_9)) (fun _ h9 => h9) rfl dBE_times_38 ?_
              refine lv_iload hx hb dBE_times_41 (lv_at hl 4 rfl) ?_
              refine lz_iald hx hb hK hP 1 0 rfl rfl (z := 3 * (rr : Int)) (by omega) dBE_times_43 ?_
              refine lv_aload_n hx hb dBE_times_44 rfl (lv_at hl 0 rfl) ?_
              refine va_get (D := D) (ci := 1) (v := .ref rt) (C := nBE) (T := fBE) (N := 2) hx hb hts iwBE hown hK hP 0 rfl rfl 1 (by decide) (hts _ (List.mem_cons_of_mem _ lkBE_15)) (fun _ h9 => h9) rfl dBE_times_45 ?_
              refine lv_iload hx hb dBE_times_48 (lv_at hl 5 rfl) ?_
              refine lz_ialk hx hb hK hP 2 0 rfl rfl (z := (cc9 : Int)) cc9 rfl (by omega) dBE_times_50 ?_
              refine lz_imul hx hb dBE_times_51 ?_
              refine lv_aload_n hx hb dBE_times_52 rfl (lv_at hl 0 rfl) ?_
              refine va_get (D := D) (ci := 1) (v := .ref lf) (C := nBE) (T := fBE) (N := 2) hx hb hts iwBE hown hK hP 0 rfl rfl 0 (by decide) (hts _ (List.mem_cons_of_mem _ lkBE_9)) (fun _ h9 => h9) rfl dBE_times_53 ?_
              refine lv_iload hx hb dBE_times_56 (lv_at hl 4 rfl) ?_
              refine lv_iconst (v := iI (1)) hx hb dBE_times_58 rfl ?_
              refine lz_iadd hx hb dBE_times_59 ?_
              refine lz_iald hx hb hK hP 1 0 rfl rfl (z := (3 * (rr : Int)) + 1) (by omega) dBE_times_60 ?_
              refine lv_aload_n hx hb dBE_times_61 rfl (lv_at hl 0 rfl) ?_
              refine va_get (D := D) (ci := 1) (v := .ref rt) (C := nBE) (T := fBE) (N := 2) hx hb hts iwBE hown hK hP 0 rfl rfl 1 (by decide) (hts _ (List.mem_cons_of_mem _ lkBE_15)) (fun _ h9 => h9) rfl dBE_times_62 ?_
              refine lv_iload hx hb dBE_times_65 (lv_at hl 5 rfl) ?_
              refine lv_iconst (v := iI (3)) hx hb dBE_times_67 rfl ?_
              refine lz_iadd hx hb dBE_times_68 ?_
              refine lz_iald hx hb hK hP 2 0 rfl rfl (z := (cc9 : Int) + 3) (by omega) dBE_times_69 ?_
              refine lz_imul hx hb dBE_times_70 ?_
              refine lz_iadd hx hb dBE_times_71 ?_
              refine lv_aload_n hx hb dBE_times_72 rfl (lv_at hl 0 rfl) ?_
              refine va_get (D := D) (ci := 1) (v := .ref lf) (C := nBE) (T := fBE) (N := 2) hx hb hts iwBE hown hK hP 0 rfl rfl 0 (by decide) (hts _ (List.mem_cons_of_mem _ lkBE_9)) (fun _ h9 => h9) rfl dBE_times_73 ?_
              refine lv_iload hx hb dBE_times_76 (lv_at hl 4 rfl) ?_
              refine lv_iconst (v := iI (2)) hx hb dBE_times_78 rfl ?_
              refine lz_iadd hx hb dBE_times_79 ?_
              refine lz_iald hx hb hK hP 1 0 rfl rfl (z := (3 * (rr : Int)) + 2) (by omega) dBE_times_80 ?_
              refine lv_aload_n hx hb dBE_times_81 rfl (lv_at hl 0 rfl) ?_
              refine va_get (D := D) (ci := 1) (v := .ref rt) (C := nBE) (T := fBE) (N := 2) hx hb hts iwBE hown hK hP 0 rfl rfl 1 (by decide) (hts _ (List.mem_cons_of_mem _ lkBE_15)) (fun _ h9 => h9) rfl dBE_times_82 ?_
              refine lv_iload hx hb dBE_times_85 (lv_at hl 5 rfl) ?_
              refine lv_bipush (v := iI (6)) hx hb dBE_times_87 (by decide) ?_
              refine lz_iadd hx hb dBE_times_89 ?_
              refine lz_iald hx hb hK hP 2 0 rfl rfl (z := (cc9 : Int) + 6) (by omega) dBE_times_90 ?_
              refine lz_imul hx hb dBE_times_91 ?_
              refine lz_iadd hx hb dBE_times_92 ?_
              refine lz_as (x := ((((rd p1 gl) (3 * (rr : Int)).toNat) * ((rd q1 gr) cc9)) + (((rd p1 gl) ((3 * (rr : Int)) + 1).toNat) * ((rd q1 gr) ((cc9 : Int) + 3).toNat))) + (((rd p1 gl) ((3 * (rr : Int)) + 2).toNat) * ((rd q1 gr) ((cc9 : Int) + 6).toNat))) (y := prodD p1 q1 (3 * rr + cc9)) (prod_at (by omega) (by omega)) ?_
              refine lv_istore (lv' := [(6, .int (iI (prodD p1 q1 (3 * rr + cc9)))), (0, .ref b), (1, .int (iI p1)), (2, .int (iI q1)), (3, .int (iI (nineP p1 q1 (3 * rr + cc9)))), (4, .int (iI (3 * (rr : Int)))), (5, .int (iI (cc9 : Int)))]) hx hb dBE_times_93 hl (by decide) rfl (fun ls hl => ?_)
              refine lv_iload hx hb dBE_times_95 (lv_at hl 0 rfl) ?_
              refine lv_iconst (v := iI (-1)) hx hb dBE_times_97 rfl ?_
              refine lz_icmp_lt (tgt := 107) hx hb dBE_times_98 (by decide) (by have := prodD_rng p1 q1 (3 * rr + cc9); omega) (by omega) (fun c_98 => ?_) (fun c_98 => ?_)
              · have hbad : timesK p1 q1 = -1 := by
                  by_cases q : timesK p1 q1 = -1
                  · exact q
                  · have := times_ne.mp q (3 * rr + cc9) (by omega)
                    omega
                refine lv_iconst (v := iI (-1)) hx hb dBE_times_107 rfl ?_
                exact hret H locs 0 0 108 ls (-1) () hbad.symm (hP.sub [0, 1, 2] rfl) (hD.sub [0, 1, 2] (by decide) rfl) hS (Nat.zero_le _) (Nat.zero_le _) dBE_times_108
              · refine lv_iload hx hb dBE_times_101 (lv_at hl 0 rfl) ?_
                refine lv_iconst (v := iI (1)) hx hb dBE_times_103 rfl ?_
                refine lz_icmp_le (tgt := 109) hx hb dBE_times_104 (by decide) (by have := prodD_rng p1 q1 (3 * rr + cc9); omega) (by omega) (fun c_104 => ?_) (fun c_104 => ?_)
                · refine lv_iload_n hx hb dBE_times_109 rfl (lv_at hl 4 rfl) ?_
                  refine lv_iconst (v := iI (3)) hx hb dBE_times_110 rfl ?_
                  refine lz_imul hx hb dBE_times_111 ?_
                  refine lv_iload hx hb dBE_times_112 (lv_at hl 0 rfl) ?_
                  refine lz_iadd hx hb dBE_times_114 ?_
                  refine lv_iconst (v := iI (1)) hx hb dBE_times_115 rfl ?_
                  refine lz_iadd hx hb dBE_times_116 ?_
                  refine lv_istore_n (lv' := [(3, .int (iI ((((nineP p1 q1 (3 * rr + cc9)) * 3) + (prodD p1 q1 (3 * rr + cc9))) + 1))), (6, .int (iI (prodD p1 q1 (3 * rr + cc9)))), (0, .ref b), (1, .int (iI p1)), (2, .int (iI q1)), (4, .int (iI (3 * (rr : Int)))), (5, .int (iI (cc9 : Int)))]) hx hb dBE_times_117 rfl hl (by decide) rfl (fun ls hl => ?_)
                  refine lz_iinc (lv' := [(5, .int (iI ((cc9 : Int) + 1))), (3, .int (iI ((((nineP p1 q1 (3 * rr + cc9)) * 3) + (prodD p1 q1 (3 * rr + cc9))) + 1))), (6, .int (iI (prodD p1 q1 (3 * rr + cc9)))), (0, .ref b), (1, .int (iI p1)), (2, .int (iI q1)), (4, .int (iI (3 * (rr : Int))))]) hx hb dBE_times_118 hl (k := 6) rfl (by decide) rfl (fun ls hl => ?_)
                  refine lv_goto (tgt := 31) hx hb dBE_times_121 (by decide) ?_
                  exact ih31 (cc9 + 1) (by omega) (fun t ht => by
                      rcases Nat.lt_or_ge t (3 * rr + cc9) with q | q
                      · exact hpc t q
                      · obtain rfl : t = 3 * rr + cc9 := by omega
                        omega) (by omega) _ _ (hP.sub [0, 1, 2] rfl) (hD.sub [0, 1, 2] (by decide) rfl) hS _ (lv_sub hl [3, 4, 5, 1, 6, 0] rfl)
                · have hbad : timesK p1 q1 = -1 := by
                    by_cases q : timesK p1 q1 = -1
                    · exact q
                    · have := times_ne.mp q (3 * rr + cc9) (by omega)
                      omega
                  refine lv_iconst (v := iI (-1)) hx hb dBE_times_107 rfl ?_
                  exact hret H locs 0 0 108 ls (-1) () hbad.symm (hP.sub [0, 1, 2] rfl) (hD.sub [0, 1, 2] (by decide) rfl) hS (Nat.zero_le _) (Nat.zero_le _) dBE_times_108
        exact lp31 _ 0 (Nat.zero_le _) hpi (Nat.lt_succ_self _) _ _ (hP.sub [0, 1, 2] rfl) (hD.sub [0, 1, 2] (by decide) rfl) hS _ (lv_sub hl [1, 2, 3, 4, 5, 0] rfl)
  exact lp21 _ 0 (Nat.zero_le _) (fun t ht => absurd ht (Nat.not_lt_zero _)) (Nat.lt_succ_self _) _ _ (hP.sub [0, 1, 2] rfl) (hD.sub [0, 1, 2] (by decide) rfl) hS _ (lv_sub hl [2, 3, 4, 1, 0] rfl)

def rmBE_moved : Room := { frames := 1, cells := 0, slots := 0, locals := 28 }
set_option maxHeartbeats 4000000 in
set_option maxRecDepth 100000 in
theorem mBE_moved (l : Launch) (D : va_G) (cI cG : ClassId) (b lf rt : Nat) (gl gr : Nat → Int) (k x : Int) (hk : kOK k) (hx1 : isPl x) : zI l yBE_moved wBE_moved rmBE_moved D vwCl (zT cI cG) [.ref b, .int (iI k), .int (iI x)] [(b, .inr (1, [.ref lf, .ref rt])), (lf, .inl (cI, 9, .inl (zf gl))), (rt, .inl (cI, 9, .inl (zf gr)))] (S := Unit) (fun z u => z = movK k x) (fun u => [(b, .inr (1, [.ref lf, .ref rt])), (lf, .inl (cI, 9, .inl (zf (rd k gl)))), (rt, .inl (cI, 9, .inl (zf gr)))]) := by
  refine zI.of (cc := cBE_moved) (maxL := 3) (rt := .int) (by decide) rfl (Nat.le_of_ble_eq_true rfl) (fun _ _ _ => rfl) ?_
  intro p e s m args below meth c A ls Q hx hb hml hown hts hnm hK hD hA hAe hX hl hret H locs hP hS
  have hl : lv_has ls 3 [(0, .ref b), (1, .int (iI k)), (2, .int (iI x))] := hl
  have hk2 := hk
  unfold kOK at hk2
  refine lv_iload_n hx hb dBE_moved_0 rfl (lv_at hl 1 rfl) ?_
  refine lv_aload_n hx hb dBE_moved_1 rfl (lv_at hl 0 rfl) ?_
  refine va_get (D := D) (ci := 1) (v := .ref lf) (C := nBE) (T := fBE) (N := 2) hx hb hts iwBE hown hK hP 0 rfl rfl 0 (by decide) (hts _ (List.mem_cons_of_mem _ lkBE_9)) (fun _ h9 => h9) rfl dBE_moved_2 ?_
  refine zV.back (va_runS (As := [.int (iI k), .ref lf]) (rest := []) ⟨hx, hb, hml, hown, hts⟩ ((mBE_read l D cI cG lf gl k (by omega)) H.size) (va_cwS 2 hts (gT1 lkBE_18 (gT1 smBE_read (gT1 iniBE (gTW kcBE_read)))) rfl rfl rfl (by decide +kernel) ⟨Nat.le_of_ble_eq_true rfl, Nat.le_of_ble_eq_true rfl⟩) ⟨zPre_blind, zPre.at (wc := [(lf, .inl (cI, 9, .inl (zf gl)))]) hK hP hD hS hA hX [1] (by decide) rfl⟩ rfl rfl hl.1 rfl (lv_room (Nat.le_of_ble_eq_true rfl)) dBE_moved_5 ⟨Nat.le_of_ble_eq_true rfl, Nat.le_of_ble_eq_true rfl⟩) (wr := [(b, .inr (1, [.ref lf, .ref rt])), (rt, .inl (cI, 9, .inl (zf gr)))]) hP hD hS hA [1] [0, 2] rfl rfl (by decide) (by decide) (fun u_5 H locs q_5 hP hD hS hz_5 hk_5 => ?_)
  have hP : va_P D vwCl [(b, .inr (1, [.ref lf, .ref rt])), (rt, .inl (cI, 9, .inl (zf gr))), (lf, .inl (cI, 9, .inl (zf (rd k gl))))] H := hP
  have hD : va_D A [(b, .inr (1, [.ref lf, .ref rt])), (rt, .inl (cI, 9, .inl (zf gr))), (lf, .inl (cI, 9, .inl (zf (rd k gl))))] := hD
  refine lv_aload_n hx hb dBE_moved_8 rfl (lv_at hl 0 rfl) ?_
  refine lv_iload_n hx hb dBE_moved_9 rfl (lv_at hl 1 rfl) ?_
  refine lv_sipush (v := iI (13824)) hx hb dBE_moved_10 (by decide) ?_
  refine lz_irem hx hb dBE_moved_13 (by omega) (by omega) ?_
  refine lv_iload_n hx hb dBE_moved_14 rfl (lv_at hl 2 rfl) ?_
  refine zRI.back ((va_runV (As := [.int (iI (k % 13824)), .int (iI x)]) (rest := []) ⟨hx, hb, hml, hown, hts⟩ (mBE_movedByLeft l D cI cG b lf rt (rd k gl) (k % 13824) x (rd_in _ _) (by unfold isPl; omega) hx1) (cwV 2 hts (gT1 lkBE_29 (gT1 imBE_movedByLeft (gT1 seBE_movedByLeft (gT1 iniBE (gTW kcBE_movedByLeft))))) rfl rfl rfl (by decide +kernel) ⟨Nat.le_of_ble_eq_true rfl, Nat.le_of_ble_eq_true rfl⟩) ⟨zRd_blind, va_recv hK hP (ci := 1) (q0 := 0) rfl rfl, zRd.at (wc := [(b, .inr (1, [.ref lf, .ref rt])), (lf, .inl (cI, 9, .inl (zf (rd k gl))))]) hK (hP.sub (ws' := [(b, .inr (1, [.ref lf, .ref rt])), (lf, .inl (cI, 9, .inl (zf (rd k gl))))]) [0, 2] rfl) (stF.now hX hS)⟩ rfl rfl hl.1 rfl (lv_room (Nat.le_of_ble_eq_true rfl)) dBE_moved_15 ⟨Nat.le_of_ble_eq_true rfl, Nat.le_of_ble_eq_true rfl⟩).run) (fun z_15 q_15 => ?_)
  obtain rfl : z_15 = movF (rd k gl) (k % 13824) x := q_15
  exact hret H locs 0 0 18 ls (movF (rd k gl) (k % 13824) x) () rfl (hP.sub [0, 2, 1] rfl) (hD.sub [0, 2, 1] (by decide) rfl) hS (Nat.zero_le _) (Nat.zero_le _) dBE_moved_18

def rmBE_turns : Room := { frames := 2, cells := 0, slots := 0, locals := 54 }
set_option maxHeartbeats 4000000 in
set_option maxRecDepth 100000 in
theorem mBE_turns (l : Launch) (D : va_G) (cI cG : ClassId) (b lf rt : Nat) (gl gr : Nat → Int) (k : Int) (hk : kOK k) : zI l yBE_turns wBE_turns rmBE_turns D vwCl (zT cI cG) [.ref b, .int (iI k)] [(b, .inr (1, [.ref lf, .ref rt])), (lf, .inl (cI, 9, .inl (zf gl))), (rt, .inl (cI, 9, .inl (zf gr)))] (S := ((Nat → Int) × (Nat → Int))) (fun z u => trn k z) (fun u => [(b, .inr (1, [.ref lf, .ref rt])), (lf, .inl (cI, 9, .inl (zf u.1))), (rt, .inl (cI, 9, .inl (zf u.2)))]) := by
  refine zI.of (cc := cBE_turns) (maxL := 4) (rt := .int) (by decide) rfl (Nat.le_of_ble_eq_true rfl) (fun _ _ _ => rfl) ?_
  intro p e s m args below meth c A ls Q hx hb hml hown hts hnm hK hD hA hAe hX hl hret H locs hP hS
  have hl : lv_has ls 4 [(0, .ref b), (1, .int (iI k))] := hl
  have hk2 := hk
  unfold kOK at hk2
  refine lv_iload_n hx hb dBE_turns_0 rfl (lv_at hl 1 rfl) ?_
  refine lv_istore_n (lv' := [(2, .int (iI k)), (0, .ref b), (1, .int (iI k))]) hx hb dBE_turns_1 rfl hl (by decide) rfl (fun ls hl => ?_)
  refine lv_iconst (v := iI (1)) hx hb dBE_turns_2 rfl ?_
  refine lv_istore_n (lv' := [(3, .int (iI 1)), (2, .int (iI k)), (0, .ref b), (1, .int (iI k))]) hx hb dBE_turns_3 rfl hl (by decide) rfl (fun ls hl => ?_)
  have lp4 : ∀ (n9 : Nat) (n : Nat) (pw : Int) (gl gr : Nat → Int), (1 ≤ n ∧ n ≤ 193) → (pw = powK k n) → (pw = -1 ∨ kOK pw) → (∀ j : Nat, 1 ≤ j → j < n → powK k j ≠ u0) → (194 - n) < n9 → ∀ (H : Heap) (locs : List Loc), va_P D vwCl [(b, .inr (1, [.ref lf, .ref rt])), (lf, .inl (cI, 9, .inl (zf gl))), (rt, .inl (cI, 9, .inl (zf gr)))] H → va_D A [(b, .inr (1, [.ref lf, .ref rt])), (lf, .inl (cI, 9, .inl (zf gl))), (rt, .inl (cI, 9, .inl (zf gr)))] → va_S A s.heap H locs → ∀ (ls : Array Slot), lv_has ls 4 [(0, .ref b), (1, .int (iI k)), (2, .int (iI pw)), (3, .int (iI (n : Int)))] → W p l e (headSpec wBE_turns rmBE_turns).room s m args below meth c H locs 0 0 Q (F0 m 4 ls []) := by
    intro n9
    induction n9 with
    | zero => intro n pw gl gr hn hpw hpr hall hm; exact absurd hm (Nat.not_lt_zero _)
    | succ n9 ih4 =>
      intro n pw gl gr hn hpw hpr hall hm4 H locs hP hD hS ls hl
      refine lv_iload_n hx hb dBE_turns_4 rfl (lv_at hl 2 rfl) ?_
      refine lv_iconst (v := iI (-1)) hx hb dBE_turns_5 rfl ?_
      refine lz_icmp_eq (tgt := 37) hx hb dBE_turns_6 (by decide) (by unfold kOK at hpr; omega) (by omega) (fun c_6 => ?_) (fun c_6 => ?_)
      · refine lv_iconst (v := iI (-1)) hx hb dBE_turns_37 rfl ?_
        exact hret H locs 0 0 38 ls (-1) (gl, gr) (Or.inr ⟨rfl, by first | exact Or.inl ⟨n, hn.1, hn.2, by rw [← hpw]; exact c_6⟩ | exact Or.inr (fun j h1 h2 => hall j h1 (by omega))⟩) (hP.sub [0, 1, 2] rfl) (hD.sub [0, 1, 2] (by decide) rfl) hS (Nat.zero_le _) (Nat.zero_le _) dBE_turns_38
      · have hpk : kOK pw := hpr.resolve_left c_6
        have hpk2 := hpk
        unfold kOK at hpk2
        refine lv_iload_n hx hb dBE_turns_9 rfl (lv_at hl 3 rfl) ?_
        refine lv_sipush (v := iI (192)) hx hb dBE_turns_10 (by decide) ?_
        refine lz_icmp_gt (tgt := 37) hx hb dBE_turns_13 (by decide) (by omega) (by omega) (fun c_13 => ?_) (fun c_13 => ?_)
        · refine lv_iconst (v := iI (-1)) hx hb dBE_turns_37 rfl ?_
          exact hret H locs 0 0 38 ls (-1) (gl, gr) (Or.inr ⟨rfl, by first | exact Or.inl ⟨n, hn.1, hn.2, by rw [← hpw]; exact c_6⟩ | exact Or.inr (fun j h1 h2 => hall j h1 (by omega))⟩) (hP.sub [0, 1, 2] rfl) (hD.sub [0, 1, 2] (by decide) rfl) hS (Nat.zero_le _) (Nat.zero_le _) dBE_turns_38
        · refine lv_iload_n hx hb dBE_turns_16 rfl (lv_at hl 2 rfl) ?_
          refine lz_ldc (z := 227874816) hx hb hown (hts _ (List.mem_cons_of_mem _ lkBE_33)) (by decide) dBE_turns_17 ?_
          refine lz_icmp_ne (tgt := 24) hx hb dBE_turns_19 (by decide) (by omega) (by omega) (fun c_19 => ?_) (fun c_19 => ?_)
          · have c_19 : pw ≠ u0 := c_19
            refine lv_aload_n hx hb dBE_turns_24 rfl (lv_at hl 0 rfl) ?_
            refine lv_iload_n hx hb dBE_turns_25 rfl (lv_at hl 2 rfl) ?_
            refine lv_iload_n hx hb dBE_turns_26 rfl (lv_at hl 1 rfl) ?_
            refine zI.back (va_runV (As := [.int (iI pw), .int (iI k)]) (rest := []) ⟨hx, hb, hml, hown, hts⟩ ((mBE_times l D cI cG b lf rt gl gr pw k hpk hk) H.size) (cwV 2 hts (gT1 lkBE_34 (gT1 imBE_times (gT1 seBE_times (gT1 iniBE (gTW kcBE_times))))) rfl rfl rfl (by decide +kernel) ⟨Nat.le_of_ble_eq_true rfl, Nat.le_of_ble_eq_true rfl⟩) ⟨zPre_blind, va_recv hK hP (ci := 1) (q0 := 0) rfl rfl, zPre.at (wc := [(b, .inr (1, [.ref lf, .ref rt])), (lf, .inl (cI, 9, .inl (zf gl))), (rt, .inl (cI, 9, .inl (zf gr)))]) hK hP hD hS hA hX [0, 1, 2] (by decide) rfl⟩ rfl rfl hl.1 rfl (lv_room (Nat.le_of_ble_eq_true rfl)) dBE_turns_27 ⟨Nat.le_of_ble_eq_true rfl, Nat.le_of_ble_eq_true rfl⟩) (wr := []) hP hD hS hA [0, 1, 2] [] rfl rfl (by decide) (by decide) (fun z_27 u_27 H locs q_27 hP hD hS hz_27 hk_27 => ?_)
            obtain rfl : z_27 = timesK pw k := q_27
            have hP : va_P D vwCl [(b, .inr (1, [.ref lf, .ref rt])), (lf, .inl (cI, 9, .inl (zf (rd pw gl)))), (rt, .inl (cI, 9, .inl (zf (rd k gr))))] H := hP
            have hD : va_D A [(b, .inr (1, [.ref lf, .ref rt])), (lf, .inl (cI, 9, .inl (zf (rd pw gl)))), (rt, .inl (cI, 9, .inl (zf (rd k gr))))] := hD
            refine lv_istore_n (lv' := [(2, .int (iI (timesK pw k))), (0, .ref b), (1, .int (iI k)), (3, .int (iI (n : Int)))]) hx hb dBE_turns_30 rfl hl (by decide) rfl (fun ls hl => ?_)
            refine lz_iinc (lv' := [(3, .int (iI ((n : Int) + 1))), (2, .int (iI (timesK pw k))), (0, .ref b), (1, .int (iI k))]) hx hb dBE_turns_31 hl (k := 3) rfl (by decide) rfl (fun ls hl => ?_)
            refine lv_goto (tgt := 4) hx hb dBE_turns_34 (by decide) ?_
            exact ih4 (n + 1) (timesK pw k) (rd pw gl) (rd k gr) (by omega) (by rw [powK_s hn.1, hpw]) times_rng (fun j h1 h2 => by
                rcases Nat.lt_or_ge j n with q | q
                · exact hall j h1 q
                · obtain rfl : j = n := by omega
                  rw [← hpw]; exact c_19) (by omega) _ _ (hP.sub [0, 1, 2] rfl) (hD.sub [0, 1, 2] (by decide) rfl) hS _ (lv_sub hl [2, 3, 1, 0] rfl)
          · have hpu : pw = u0 := c_19
            refine lv_iload_n hx hb dBE_turns_22 rfl (lv_at hl 3 rfl) ?_
            exact hret H locs 0 0 23 ls (n : Int) (gl, gr) (Or.inl ⟨by omega, by omega, by rw [show (n : Int).toNat = n by omega, ← hpw, hpu], fun j h1 h2 => hall j h1 (by omega)⟩) (hP.sub [0, 1, 2] rfl) (hD.sub [0, 1, 2] (by decide) rfl) hS (Nat.zero_le _) (Nat.zero_le _) dBE_turns_23
  exact lp4 _ 1 k gl gr (by omega) rfl (Or.inr hk) (fun j h1 h2 => by omega) (Nat.lt_succ_self _) _ _ (hP.sub [0, 1, 2] rfl) (hD.sub [0, 1, 2] (by decide) rfl) hS _ (lv_sub hl [2, 3, 1, 0] rfl)

def rmBE_init : Room := { frames := 1, cells := 2, slots := 18, locals := 30 }
set_option maxHeartbeats 4000000 in
set_option maxRecDepth 100000 in
theorem mBE_init (l : Launch) (D : va_G) (cI cG : ClassId) (b : Nat)  : zV l yBE_init wBE_init rmBE_init D vwCl (zT cI cG) [.ref b] [(b, .inr (1, [.null, .null]))] (S := (Nat × Nat)) (fun u => True) (fun u => [(b, .inr (1, [.ref u.1, .ref u.2])), (u.1, .inl (cI, 9, .inl (zf fun _ => 0))), (u.2, .inl (cI, 9, .inl (zf fun _ => 0)))]) := by
  refine zV.of (cc := cBE_init) (maxL := 1) (by decide) rfl (Nat.le_of_ble_eq_true rfl) ?_
  intro p e s m args below meth c A ls Q hx hb hml hown hts hnm hK hD hA hAe hX hl hret H locs hP hS
  have hl : lv_has ls 1 [(0, .ref b)] := hl
  refine lv_aload_n hx hb dBE_init_0 rfl (lv_at hl 0 rfl) ?_
  refine W.objInit hx hb hown (hts _ (List.mem_cons_of_mem _ lkBE_3)) (hts _ (List.mem_cons_of_mem _ imJO_init)) (hts _ (List.mem_cons_of_mem _ kcJO_init)) rfl (by rw [hml]; exact hl.1) rfl dBE_init_1 (Nat.le_of_ble_eq_true rfl) (Nat.le_of_ble_eq_true rfl) ?_
  refine W.eq (g2 := F0 m 4 ls []) rfl ?_
  refine lv_aload_n hx hb dBE_init_4 rfl (lv_at hl 0 rfl) ?_
  refine lv_bipush (v := iI (9)) hx hb dBE_init_5 (by decide) ?_
  refine lz_newa hx hb (hts _ (List.mem_cons_of_mem _ ac_int)) hK hP hD hS hA 0 rfl (N := 9) rfl (by decide) (Nat.le_of_ble_eq_true rfl) (Nat.le_of_ble_eq_true rfl) dBE_init_7 (fun qa H hP hD hS => ?_)
  have hP : va_P D vwCl [(b, .inr (1, [.null, .null])), (qa, .inl (cI, 9, .inl (zf (fun _ => 0))))] H := hP
  have hD : va_D A [(b, .inr (1, [.null, .null])), (qa, .inl (cI, 9, .inl (zf (fun _ => 0))))] := hD
  refine va_putF (D := D) (ci := 1) (v := .ref qa) (ty := .array .int) (C := nBE) (T := fBE) (N := 2) hx hb hts iwBE tBE tkBE nmBE hown hK hP hD hS 0 rfl rfl 0 (by decide) (hts _ (List.mem_cons_of_mem _ lkBE_9)) (fun _ h9 => h9) rfl hnm rfl (by decide +kernel) rfl rfl (Nat.le_of_ble_eq_true rfl) dBE_init_9 (fun H locs hP hD hS => ?_)
  have hP : va_P D vwCl [(b, .inr (1, [.ref qa, .null])), (qa, .inl (cI, 9, .inl (zf (fun _ => 0))))] H := hP
  have hD : va_D A [(b, .inr (1, [.ref qa, .null])), (qa, .inl (cI, 9, .inl (zf (fun _ => 0))))] := hD
  refine lv_aload_n hx hb dBE_init_12 rfl (lv_at hl 0 rfl) ?_
  refine lv_bipush (v := iI (9)) hx hb dBE_init_13 (by decide) ?_
  refine lz_newa hx hb (hts _ (List.mem_cons_of_mem _ ac_int)) hK hP hD hS hA 0 rfl (N := 9) rfl (by decide) (Nat.le_of_ble_eq_true rfl) (Nat.le_of_ble_eq_true rfl) dBE_init_15 (fun qb H hP hD hS => ?_)
  have hP : va_P D vwCl [(b, .inr (1, [.ref qa, .null])), (qa, .inl (cI, 9, .inl (zf (fun _ => 0)))), (qb, .inl (cI, 9, .inl (zf (fun _ => 0))))] H := hP
  have hD : va_D A [(b, .inr (1, [.ref qa, .null])), (qa, .inl (cI, 9, .inl (zf (fun _ => 0)))), (qb, .inl (cI, 9, .inl (zf (fun _ => 0))))] := hD
  refine va_putF (D := D) (ci := 1) (v := .ref qb) (ty := .array .int) (C := nBE) (T := fBE) (N := 2) hx hb hts iwBE tBE tkBE nmBE hown hK hP hD hS 0 rfl rfl 1 (by decide) (hts _ (List.mem_cons_of_mem _ lkBE_15)) (fun _ h9 => h9) rfl hnm rfl (by decide +kernel) rfl rfl (Nat.le_of_ble_eq_true rfl) dBE_init_17 (fun H locs hP hD hS => ?_)
  have hP : va_P D vwCl [(b, .inr (1, [.ref qa, .ref qb])), (qa, .inl (cI, 9, .inl (zf (fun _ => 0)))), (qb, .inl (cI, 9, .inl (zf (fun _ => 0))))] H := hP
  have hD : va_D A [(b, .inr (1, [.ref qa, .ref qb])), (qa, .inl (cI, 9, .inl (zf (fun _ => 0)))), (qb, .inl (cI, 9, .inl (zf (fun _ => 0))))] := hD
  exact hret H locs (0 + 1 + 1) (0 + 9 + 9) 20 ls (qa, qb) trivial (hP.sub [0, 1, 2] rfl) (hD.sub [0, 1, 2] (by decide) rfl) hS (by decide) (by decide) dBE_init_20
