/-! GroupHallsModel, first: written by wip/whole -/
def rmMO_open : Room := { frames := 0, cells := 0, slots := 0, locals := 0 }
set_option maxHeartbeats 4000000 in
set_option maxRecDepth 100000 in
theorem mMO_open (l : Launch) (D : va_G) (cI cJ cZ : ClassId) (op : Int) (am as : Nat) (f g : Nat → Int) (h : kOK op) : zV l yMO_open wMO_open rmMO_open D vwCl (zM cI cJ cZ) [.int (iI op), .ref am, .ref as] [(am, .inl (cI, 9, .inl (zf f))), (as, .inl (cI, 3, .inl (zf g)))] (S := ((Nat → Int) × (Nat → Int))) (fun u => (∀ j, j < 9 → u.1 j = mdg op j) ∧ ∀ j, j < 3 → u.2 j = sdg op j) (fun u => [(am, .inl (cI, 9, .inl (zf u.1))), (as, .inl (cI, 3, .inl (zf u.2)))]) := by
  refine zV.of (cc := cMO_open) (maxL := 6) (by decide) rfl (Nat.le_of_ble_eq_true rfl) ?_
  intro p e s m args below meth c A ls Q hx hb hml hown hts hnm hK hD hA hAe hX hl hret H locs hP hS
  have hl : lv_has ls 6 [(0, .int (iI op)), (1, .ref am), (2, .ref as)] := hl
  unfold kOK at h
  refine lv_iload_n hx hb dMO_open_0 rfl (lv_at hl 0 rfl) ?_
  refine lv_sipush (v := iI (13824)) hx hb dMO_open_1 (by decide) ?_
  refine lz_idiv hx hb dMO_open_4 (by omega) (by omega) ?_
  refine lv_istore_n (lv' := [(3, .int (iI (op / 13824))), (0, .int (iI op)), (1, .ref am), (2, .ref as)]) hx hb dMO_open_5 rfl hl (by decide) rfl (fun ls hl => ?_)
  refine lv_iload_n hx hb dMO_open_6 rfl (lv_at hl 1 rfl) ?_
  refine lv_sipush (v := iI (13824)) hx hb dMO_open_7 (by decide) ?_
  refine lz_irem hx hb dMO_open_10 (by omega) (by omega) ?_
  refine lv_istore (lv' := [(4, .int (iI (op % 13824))), (3, .int (iI (op / 13824))), (0, .int (iI op)), (1, .ref am), (2, .ref as)]) hx hb dMO_open_11 hl (by decide) rfl (fun ls hl => ?_)
  refine lv_bipush (v := iI (8)) hx hb dMO_open_13 (by decide) ?_
  refine lv_istore (lv' := [(5, .int (iI 8)), (4, .int (iI (op % 13824))), (3, .int (iI (op / 13824))), (0, .int (iI op)), (1, .ref am), (2, .ref as)]) hx hb dMO_open_15 hl (by decide) rfl (fun ls hl => ?_)
  rw [show op / 13824 = op / 13824 / p3r 0 from by show _ = op / 13824 / 1; omega] at hl
  rw [show 8 = 8 - ((0 : Nat) : Int) from by omega] at hl
  have lp17 : ∀ (n9 : Nat) (i : Nat) (f1 : Nat → Int), (i ≤ 9) → (∀ j, 8 < j + i → j < 9 → f1 j = mdg op j) → (9 - i) < n9 → ∀ (H : Heap) (locs : List Loc), va_P D vwCl [(am, .inl (cI, 9, .inl (zf f1))), (as, .inl (cI, 3, .inl (zf g)))] H → va_D A [(am, .inl (cI, 9, .inl (zf f1))), (as, .inl (cI, 3, .inl (zf g)))] → va_S A s.heap H locs → ∀ (ls : Array Slot), lv_has ls 6 [(0, .int (iI op)), (1, .ref am), (2, .ref as), (3, .int (iI (op / 13824 / p3r i))), (4, .int (iI (op % 13824))), (5, .int (iI (8 - (i : Int))))] → W p l e (headSpec wMO_open rmMO_open).room s m args below meth c H locs 0 0 Q (F0 m 17 ls []) := by
    intro n9
    induction n9 with
    | zero => intro i f1 hi h1 hm; exact absurd hm (Nat.not_lt_zero _)
    | succ n9 ih17 =>
      intro i f1 hi h1 hm17 H locs hP hD hS ls hl
      have hn9 := nn_rng (x := op / 13824) (by omega) (p3r_pos hi)
      refine lv_iload hx hb dMO_open_17 (lv_at hl 5 rfl) ?_
      refine lz_if_lt (tgt := 41) hx hb dMO_open_19 (by decide) (by omega) (fun c_19 => ?_) (fun c_19 => ?_)
      · have hA9 : ∀ j, j < 9 → f1 j = mdg op j := fun j hj => h1 j (by omega) hj
        clear h1
        refine lv_iconst (v := iI (2)) hx hb dMO_open_41 rfl ?_
        refine lv_istore (lv' := [(5, .int (iI 2)), (0, .int (iI op)), (1, .ref am), (2, .ref as), (3, .int (iI (op / 13824 / p3r i))), (4, .int (iI (op % 13824)))]) hx hb dMO_open_42 hl (by decide) rfl (fun ls hl => ?_)
        rw [show op % 13824 = op % 13824 / p24 0 from by show _ = op % 13824 / 1; omega] at hl
        rw [show 2 = 2 - ((0 : Nat) : Int) from by omega] at hl
        have lp44 : ∀ (n9 : Nat) (i : Nat) (g1 : Nat → Int), (i ≤ 3) → (∀ j, 2 < j + i → j < 3 → g1 j = sdg op j) → (3 - i) < n9 → ∀ (H : Heap) (locs : List Loc), va_P D vwCl [(am, .inl (cI, 9, .inl (zf f1))), (as, .inl (cI, 3, .inl (zf g1)))] H → va_D A [(am, .inl (cI, 9, .inl (zf f1))), (as, .inl (cI, 3, .inl (zf g1)))] → va_S A s.heap H locs → ∀ (ls : Array Slot), lv_has ls 6 [(0, .int (iI op)), (1, .ref am), (2, .ref as), (4, .int (iI (op % 13824 / p24 i))), (5, .int (iI (2 - (i : Int))))] → W p l e (headSpec wMO_open rmMO_open).room s m args below meth c H locs 0 0 Q (F0 m 44 ls []) := by
          intro n9
          induction n9 with
          | zero => intro i g1 hi h2 hm; exact absurd hm (Nat.not_lt_zero _)
          | succ n9 ih44 =>
            intro i g1 hi h2 hm44 H locs hP hD hS ls hl
            have hn9 := nn_rng (x := op % 13824) (by omega) (p24_pos hi)
            refine lv_iload hx hb dMO_open_44 (lv_at hl 4 rfl) ?_
            refine lz_if_lt (tgt := 71) hx hb dMO_open_46 (by decide) (by omega) (fun c_46 => ?_) (fun c_46 => ?_)
            · exact hret H locs 0 0 71 ls (f1, g1) ⟨hA9, fun j hj => h2 j (by omega) hj⟩ (hP.sub [0, 1] rfl) (hD.sub [0, 1] (by decide) rfl) hS (Nat.zero_le _) (Nat.zero_le _) dMO_open_71
            · refine lv_aload_n hx hb dMO_open_49 rfl (lv_at hl 2 rfl) ?_
              refine lv_iload hx hb dMO_open_50 (lv_at hl 4 rfl) ?_
              refine lv_iload hx hb dMO_open_52 (lv_at hl 3 rfl) ?_
              refine lv_bipush (v := iI (24)) hx hb dMO_open_54 (by decide) ?_
              refine lz_irem hx hb dMO_open_56 (by omega) (by omega) ?_
              refine lz_iask hx hb hK hP hD hS 1 0 rfl rfl (z := 2 - (i : Int)) (v := (op % 13824 / p24 i) % 24) (2 - i) (by omega) (by omega) dMO_open_57 (fun H locs hP hD hS => ?_)
              have hP : va_P D vwCl [(am, .inl (cI, 9, .inl (zf f1))), (as, .inl (cI, 3, .inl (zf (zu g1 (2 - i) ((op % 13824 / p24 i) % 24)))))] H := hP
              have hD : va_D A [(am, .inl (cI, 9, .inl (zf f1))), (as, .inl (cI, 3, .inl (zf (zu g1 (2 - i) ((op % 13824 / p24 i) % 24)))))] := hD
              refine lv_iload hx hb dMO_open_58 (lv_at hl 3 rfl) ?_
              refine lv_bipush (v := iI (24)) hx hb dMO_open_60 (by decide) ?_
              refine lz_idiv hx hb dMO_open_62 (by omega) (by omega) ?_
              refine lv_istore (lv' := [(4, .int (iI ((op % 13824 / p24 i) / 24))), (0, .int (iI op)), (1, .ref am), (2, .ref as), (5, .int (iI (2 - (i : Int))))]) hx hb dMO_open_63 hl (by decide) rfl (fun ls hl => ?_)
              refine lz_iinc (lv' := [(5, .int (iI ((2 - (i : Int)) + (-1)))), (4, .int (iI ((op % 13824 / p24 i) / 24))), (0, .int (iI op)), (1, .ref am), (2, .ref as)]) hx hb dMO_open_65 hl (k := 4) rfl (by decide) rfl (fun ls hl => ?_)
              refine lv_goto (tgt := 44) hx hb dMO_open_68 (by decide) ?_
              rw [show (op % 13824 / p24 i) / 24 = op % 13824 / p24 (i + 1) from (shift_dig (by omega)).2] at hl
              rw [show (2 - (i : Int)) + (-1) = 2 - ((i + 1 : Nat) : Int) from by omega] at hl
              exact ih44 (i + 1) (zu g1 (2 - i) (op % 13824 / p24 i % 24)) (by omega) (fun j hj hj2 => by
                  by_cases e : j = 2 - i
                  · rw [e, zu_s]; exact (shift_dig (by omega)).1
                  · rw [zu_n _ _ e]; exact h2 j (by omega) hj2) (by omega) _ _ (hP.sub [0, 1] rfl) (hD.sub [0, 1] (by decide) rfl) hS _ (lv_sub hl [2, 3, 4, 1, 0] rfl)
        exact lp44 _ 0 g (by omega) (fun j hj hj2 => by omega) (Nat.lt_succ_self _) _ _ (hP.sub [0, 1] rfl) (hD.sub [0, 1] (by decide) rfl) hS _ (lv_sub hl [1, 2, 3, 5, 0] rfl)
      · refine lv_aload_n hx hb dMO_open_22 rfl (lv_at hl 1 rfl) ?_
        refine lv_iload hx hb dMO_open_23 (lv_at hl 5 rfl) ?_
        refine lv_iload_n hx hb dMO_open_25 rfl (lv_at hl 3 rfl) ?_
        refine lv_iconst (v := iI (3)) hx hb dMO_open_26 rfl ?_
        refine lz_irem hx hb dMO_open_27 (by omega) (by omega) ?_
        refine lv_iconst (v := iI (1)) hx hb dMO_open_28 rfl ?_
        refine lz_isub hx hb dMO_open_29 ?_
        refine lz_iask hx hb hK hP hD hS 0 0 rfl rfl (z := 8 - (i : Int)) (v := ((op / 13824 / p3r i) % 3) - 1) (8 - i) (by omega) (by omega) dMO_open_30 (fun H locs hP hD hS => ?_)
        have hP : va_P D vwCl [(am, .inl (cI, 9, .inl (zf (zu f1 (8 - i) (((op / 13824 / p3r i) % 3) - 1))))), (as, .inl (cI, 3, .inl (zf g)))] H := hP
        have hD : va_D A [(am, .inl (cI, 9, .inl (zf (zu f1 (8 - i) (((op / 13824 / p3r i) % 3) - 1))))), (as, .inl (cI, 3, .inl (zf g)))] := hD
        refine lv_iload_n hx hb dMO_open_31 rfl (lv_at hl 3 rfl) ?_
        refine lv_iconst (v := iI (3)) hx hb dMO_open_32 rfl ?_
        refine lz_idiv hx hb dMO_open_33 (by omega) (by omega) ?_
        refine lv_istore_n (lv' := [(3, .int (iI ((op / 13824 / p3r i) / 3))), (0, .int (iI op)), (1, .ref am), (2, .ref as), (4, .int (iI (op % 13824))), (5, .int (iI (8 - (i : Int))))]) hx hb dMO_open_34 rfl hl (by decide) rfl (fun ls hl => ?_)
        refine lz_iinc (lv' := [(5, .int (iI ((8 - (i : Int)) + (-1)))), (3, .int (iI ((op / 13824 / p3r i) / 3))), (0, .int (iI op)), (1, .ref am), (2, .ref as), (4, .int (iI (op % 13824)))]) hx hb dMO_open_35 hl (k := 5) rfl (by decide) rfl (fun ls hl => ?_)
        refine lv_goto (tgt := 17) hx hb dMO_open_38 (by decide) ?_
        rw [show (op / 13824 / p3r i) / 3 = op / 13824 / p3r (i + 1) from (nine_dig (by omega)).2] at hl
        rw [show (8 - (i : Int)) + (-1) = 8 - ((i + 1 : Nat) : Int) from by omega] at hl
        exact ih17 (i + 1) (zu f1 (8 - i) (op / 13824 / p3r i % 3 - 1)) (by omega) (fun j hj hj2 => by
            by_cases e : j = 8 - i
            · rw [e, zu_s]; exact (nine_dig (by omega)).1
            · rw [zu_n _ _ e]; exact h1 j (by omega) hj2) (by omega) _ _ (hP.sub [0, 1] rfl) (hD.sub [0, 1] (by decide) rfl) hS _ (lv_sub hl [2, 3, 4, 1, 5, 0] rfl)
  exact lp17 _ 0 f (by omega) (fun j hj hj2 => by omega) (Nat.lt_succ_self _) _ _ (hP.sub [0, 1] rfl) (hD.sub [0, 1] (by decide) rfl) hS _ (lv_sub hl [3, 4, 5, 2, 1, 0] rfl)

def rmMO_determinant : Room := { frames := 0, cells := 0, slots := 0, locals := 0 }
set_option maxHeartbeats 4000000 in
set_option maxRecDepth 100000 in
theorem mMO_determinant (l : Launch) (D : va_G) (cI cJ cZ : ClassId) (am : Nat) (f : Nat → Int)  : zRI l yMO_determinant wMO_determinant rmMO_determinant D vwCl (zM cI cJ cZ) [.ref am] [(am, .inl (cI, 9, .inl (zf f)))] (fun z => z = detF f) := by
  refine zRI.of (cc := cMO_determinant) (maxL := 1) (rt := .int) (by decide) rfl (Nat.le_of_ble_eq_true rfl) (fun _ _ => rfl) ?_
  intro p e s m args below meth c ls Q hx hb hml hown hts hK hP hX hl hret
  have hS0 : va_S (fun _ => False) s.heap s.heap [] := va_S.rf
  have hl : lv_has ls 1 [(0, .ref am)] := hl
  refine lv_aload_n hx hb dMO_determinant_0 rfl (lv_at hl 0 rfl) ?_
  refine lv_iconst (v := iI (0)) hx hb dMO_determinant_1 rfl ?_
  refine lz_ialk hx hb hK hP 0 0 rfl rfl (z := 0) 0 rfl (by omega) dMO_determinant_2 ?_
  refine lv_aload_n hx hb dMO_determinant_3 rfl (lv_at hl 0 rfl) ?_
  refine lv_iconst (v := iI (4)) hx hb dMO_determinant_4 rfl ?_
  refine lz_ialk hx hb hK hP 0 0 rfl rfl (z := 4) 4 rfl (by omega) dMO_determinant_5 ?_
  refine lv_aload_n hx hb dMO_determinant_6 rfl (lv_at hl 0 rfl) ?_
  refine lv_bipush (v := iI (8)) hx hb dMO_determinant_7 (by decide) ?_
  refine lz_ialk hx hb hK hP 0 0 rfl rfl (z := 8) 8 rfl (by omega) dMO_determinant_9 ?_
  refine lz_imul hx hb dMO_determinant_10 ?_
  refine lv_aload_n hx hb dMO_determinant_11 rfl (lv_at hl 0 rfl) ?_
  refine lv_iconst (v := iI (5)) hx hb dMO_determinant_12 rfl ?_
  refine lz_ialk hx hb hK hP 0 0 rfl rfl (z := 5) 5 rfl (by omega) dMO_determinant_13 ?_
  refine lv_aload_n hx hb dMO_determinant_14 rfl (lv_at hl 0 rfl) ?_
  refine lv_bipush (v := iI (7)) hx hb dMO_determinant_15 (by decide) ?_
  refine lz_ialk hx hb hK hP 0 0 rfl rfl (z := 7) 7 rfl (by omega) dMO_determinant_17 ?_
  refine lz_imul hx hb dMO_determinant_18 ?_
  refine lz_isub hx hb dMO_determinant_19 ?_
  refine lz_imul hx hb dMO_determinant_20 ?_
  refine lv_aload_n hx hb dMO_determinant_21 rfl (lv_at hl 0 rfl) ?_
  refine lv_iconst (v := iI (1)) hx hb dMO_determinant_22 rfl ?_
  refine lz_ialk hx hb hK hP 0 0 rfl rfl (z := 1) 1 rfl (by omega) dMO_determinant_23 ?_
  refine lv_aload_n hx hb dMO_determinant_24 rfl (lv_at hl 0 rfl) ?_
  refine lv_iconst (v := iI (3)) hx hb dMO_determinant_25 rfl ?_
  refine lz_ialk hx hb hK hP 0 0 rfl rfl (z := 3) 3 rfl (by omega) dMO_determinant_26 ?_
  refine lv_aload_n hx hb dMO_determinant_27 rfl (lv_at hl 0 rfl) ?_
  refine lv_bipush (v := iI (8)) hx hb dMO_determinant_28 (by decide) ?_
  refine lz_ialk hx hb hK hP 0 0 rfl rfl (z := 8) 8 rfl (by omega) dMO_determinant_30 ?_
  refine lz_imul hx hb dMO_determinant_31 ?_
  refine lv_aload_n hx hb dMO_determinant_32 rfl (lv_at hl 0 rfl) ?_
  refine lv_iconst (v := iI (5)) hx hb dMO_determinant_33 rfl ?_
  refine lz_ialk hx hb hK hP 0 0 rfl rfl (z := 5) 5 rfl (by omega) dMO_determinant_34 ?_
  refine lv_aload_n hx hb dMO_determinant_35 rfl (lv_at hl 0 rfl) ?_
  refine lv_bipush (v := iI (6)) hx hb dMO_determinant_36 (by decide) ?_
  refine lz_ialk hx hb hK hP 0 0 rfl rfl (z := 6) 6 rfl (by omega) dMO_determinant_38 ?_
  refine lz_imul hx hb dMO_determinant_39 ?_
  refine lz_isub hx hb dMO_determinant_40 ?_
  refine lz_imul hx hb dMO_determinant_41 ?_
  refine lz_isub hx hb dMO_determinant_42 ?_
  refine lv_aload_n hx hb dMO_determinant_43 rfl (lv_at hl 0 rfl) ?_
  refine lv_iconst (v := iI (2)) hx hb dMO_determinant_44 rfl ?_
  refine lz_ialk hx hb hK hP 0 0 rfl rfl (z := 2) 2 rfl (by omega) dMO_determinant_45 ?_
  refine lv_aload_n hx hb dMO_determinant_46 rfl (lv_at hl 0 rfl) ?_
  refine lv_iconst (v := iI (3)) hx hb dMO_determinant_47 rfl ?_
  refine lz_ialk hx hb hK hP 0 0 rfl rfl (z := 3) 3 rfl (by omega) dMO_determinant_48 ?_
  refine lv_aload_n hx hb dMO_determinant_49 rfl (lv_at hl 0 rfl) ?_
  refine lv_bipush (v := iI (7)) hx hb dMO_determinant_50 (by decide) ?_
  refine lz_ialk hx hb hK hP 0 0 rfl rfl (z := 7) 7 rfl (by omega) dMO_determinant_52 ?_
  refine lz_imul hx hb dMO_determinant_53 ?_
  refine lv_aload_n hx hb dMO_determinant_54 rfl (lv_at hl 0 rfl) ?_
  refine lv_iconst (v := iI (4)) hx hb dMO_determinant_55 rfl ?_
  refine lz_ialk hx hb hK hP 0 0 rfl rfl (z := 4) 4 rfl (by omega) dMO_determinant_56 ?_
  refine lv_aload_n hx hb dMO_determinant_57 rfl (lv_at hl 0 rfl) ?_
  refine lv_bipush (v := iI (6)) hx hb dMO_determinant_58 (by decide) ?_
  refine lz_ialk hx hb hK hP 0 0 rfl rfl (z := 6) 6 rfl (by omega) dMO_determinant_60 ?_
  refine lz_imul hx hb dMO_determinant_61 ?_
  refine lz_isub hx hb dMO_determinant_62 ?_
  refine lz_imul hx hb dMO_determinant_63 ?_
  refine lz_iadd hx hb dMO_determinant_64 ?_
  exact hret 65 ls ((((f 0) * (((f 4) * (f 8)) - ((f 5) * (f 7)))) - ((f 1) * (((f 3) * (f 8)) - ((f 5) * (f 6))))) + ((f 2) * (((f 3) * (f 7)) - ((f 4) * (f 6))))) rfl dMO_determinant_65

def rmMO_closed : Room := { frames := 0, cells := 0, slots := 0, locals := 0 }
set_option maxHeartbeats 4000000 in
set_option maxRecDepth 100000 in
theorem mMO_closed (l : Launch) (D : va_G) (cI cJ cZ : ClassId) (am as : Nat) (f g : Nat → Int) (p9 q9 : Int) (hf : ∀ j, j < 9 → f j = prodD p9 q9 j) (hs : 576 * g 0 + 24 * g 1 + g 2 = movF (mdg p9) (p9 % 13824) (q9 % 13824)) : zRI l yMO_closed wMO_closed rmMO_closed D vwCl (zM cI cJ cZ) [.ref am, .ref as] [(am, .inl (cI, 9, .inl (zf f))), (as, .inl (cI, 3, .inl (zf g)))] (fun z => z = timesK p9 q9) := by
  refine zRI.of (cc := cMO_closed) (maxL := 4) (rt := .int) (by decide) rfl (Nat.le_of_ble_eq_true rfl) (fun _ _ => rfl) ?_
  intro p e s m args below meth c ls Q hx hb hml hown hts hK hP hX hl hret
  have hS0 : va_S (fun _ => False) s.heap s.heap [] := va_S.rf
  have hl : lv_has ls 4 [(0, .ref am), (1, .ref as)] := hl
  refine lv_iconst (v := iI (0)) hx hb dMO_closed_0 rfl ?_
  refine lv_istore_n (lv' := [(2, .int (iI 0)), (0, .ref am), (1, .ref as)]) hx hb dMO_closed_1 rfl hl (by decide) rfl (fun ls hl => ?_)
  refine lv_iconst (v := iI (0)) hx hb dMO_closed_2 rfl ?_
  refine lv_istore_n (lv' := [(3, .int (iI 0)), (2, .int (iI 0)), (0, .ref am), (1, .ref as)]) hx hb dMO_closed_3 rfl hl (by decide) rfl (fun ls hl => ?_)
  have lp4 : ∀ (n9 : Nat) (i : Nat), (i ≤ 9) → (∀ j, j < i → -1 ≤ prodD p9 q9 j ∧ prodD p9 q9 j ≤ 1) → (9 - i) < n9 → ∀ (ls : Array Slot), lv_has ls 4 [(0, .ref am), (1, .ref as), (2, .int (iI (nineP p9 q9 i))), (3, .int (iI (i : Int)))] → W p l e (headSpec wMO_closed rmMO_closed).room s m args below meth c s.heap [] 0 0 Q (F0 m 4 ls []) := by
    intro n9
    induction n9 with
    | zero => intro i hi h1 hm; exact absurd hm (Nat.not_lt_zero _)
    | succ n9 ih4 =>
      intro i hi h1 hm4 ls hl
      have hr9 := prodD_rng p9 q9 i
      refine lv_iload_n hx hb dMO_closed_4 rfl (lv_at hl 3 rfl) ?_
      refine lv_bipush (v := iI (9)) hx hb dMO_closed_5 (by decide) ?_
      refine lz_icmp_ge (tgt := 42) hx hb dMO_closed_7 (by decide) (by omega) (by omega) (fun c_7 => ?_) (fun c_7 => ?_)
      · refine lv_sipush (v := iI (13824)) hx hb dMO_closed_42 (by decide) ?_
        refine lv_iload_n hx hb dMO_closed_45 rfl (lv_at hl 2 rfl) ?_
        refine lz_imul hx hb dMO_closed_46 ?_
        refine lv_sipush (v := iI (576)) hx hb dMO_closed_47 (by decide) ?_
        refine lv_aload_n hx hb dMO_closed_50 rfl (lv_at hl 1 rfl) ?_
        refine lv_iconst (v := iI (0)) hx hb dMO_closed_51 rfl ?_
        refine lz_ialk hx hb hK hP 1 0 rfl rfl (z := 0) 0 rfl (by omega) dMO_closed_52 ?_
        refine lz_imul hx hb dMO_closed_53 ?_
        refine lz_iadd hx hb dMO_closed_54 ?_
        refine lv_bipush (v := iI (24)) hx hb dMO_closed_55 (by decide) ?_
        refine lv_aload_n hx hb dMO_closed_57 rfl (lv_at hl 1 rfl) ?_
        refine lv_iconst (v := iI (1)) hx hb dMO_closed_58 rfl ?_
        refine lz_ialk hx hb hK hP 1 0 rfl rfl (z := 1) 1 rfl (by omega) dMO_closed_59 ?_
        refine lz_imul hx hb dMO_closed_60 ?_
        refine lz_iadd hx hb dMO_closed_61 ?_
        refine lv_aload_n hx hb dMO_closed_62 rfl (lv_at hl 1 rfl) ?_
        refine lv_iconst (v := iI (2)) hx hb dMO_closed_63 rfl ?_
        refine lz_ialk hx hb hK hP 1 0 rfl rfl (z := 2) 2 rfl (by omega) dMO_closed_64 ?_
        refine lz_iadd hx hb dMO_closed_65 ?_
        exact hret 66 ls ((((13824 * (nineP p9 q9 i)) + (576 * (g 0))) + (24 * (g 1))) + (g 2)) (times_v (fun t ht => h1 t (by omega)) (by rw [← hs, show i = 9 by omega]; omega)) dMO_closed_66
      · have hfi := hf i (by omega)
        refine lv_aload_n hx hb dMO_closed_10 rfl (lv_at hl 0 rfl) ?_
        refine lv_iload_n hx hb dMO_closed_11 rfl (lv_at hl 3 rfl) ?_
        refine lz_ialk hx hb hK hP 0 0 rfl rfl (z := (i : Int)) i rfl (by omega) dMO_closed_12 ?_
        refine lv_iconst (v := iI (-1)) hx hb dMO_closed_13 rfl ?_
        refine lz_icmp_lt (tgt := 24) hx hb dMO_closed_14 (by decide) (by rw [hfi]; omega) (by omega) (fun c_14 => ?_) (fun c_14 => ?_)
        · refine lv_iconst (v := iI (-1)) hx hb dMO_closed_24 rfl ?_
          exact hret 25 ls (-1) (times_out (t := i) (by omega) (by omega)).symm dMO_closed_25
        · refine lv_aload_n hx hb dMO_closed_17 rfl (lv_at hl 0 rfl) ?_
          refine lv_iload_n hx hb dMO_closed_18 rfl (lv_at hl 3 rfl) ?_
          refine lz_ialk hx hb hK hP 0 0 rfl rfl (z := (i : Int)) i rfl (by omega) dMO_closed_19 ?_
          refine lv_iconst (v := iI (1)) hx hb dMO_closed_20 rfl ?_
          refine lz_icmp_le (tgt := 26) hx hb dMO_closed_21 (by decide) (by rw [hfi]; omega) (by omega) (fun c_21 => ?_) (fun c_21 => ?_)
          · refine lv_iconst (v := iI (3)) hx hb dMO_closed_26 rfl ?_
            refine lv_iload_n hx hb dMO_closed_27 rfl (lv_at hl 2 rfl) ?_
            refine lz_imul hx hb dMO_closed_28 ?_
            refine lv_aload_n hx hb dMO_closed_29 rfl (lv_at hl 0 rfl) ?_
            refine lv_iload_n hx hb dMO_closed_30 rfl (lv_at hl 3 rfl) ?_
            refine lz_ialk hx hb hK hP 0 0 rfl rfl (z := (i : Int)) i rfl (by omega) dMO_closed_31 ?_
            refine lz_iadd hx hb dMO_closed_32 ?_
            refine lv_iconst (v := iI (1)) hx hb dMO_closed_33 rfl ?_
            refine lz_iadd hx hb dMO_closed_34 ?_
            refine lv_istore_n (lv' := [(2, .int (iI (((3 * (nineP p9 q9 i)) + (f i)) + 1))), (0, .ref am), (1, .ref as), (3, .int (iI (i : Int)))]) hx hb dMO_closed_35 rfl hl (by decide) rfl (fun ls hl => ?_)
            refine lz_iinc (lv' := [(3, .int (iI ((i : Int) + 1))), (2, .int (iI (((3 * (nineP p9 q9 i)) + (f i)) + 1))), (0, .ref am), (1, .ref as)]) hx hb dMO_closed_36 hl (k := 3) rfl (by decide) rfl (fun ls hl => ?_)
            refine lv_goto (tgt := 4) hx hb dMO_closed_39 (by decide) ?_
            rw [show ((3 * (nineP p9 q9 i)) + (f i)) + 1 = nineP p9 q9 (i + 1) from by rw [hfi]; show _ = nineP p9 q9 i * 3 + prodD p9 q9 i + 1; omega] at hl
            exact ih4 (i + 1) (by omega) (fun j hj => by
                rcases Nat.lt_or_ge j i with g9 | g9
                · exact h1 j g9
                · obtain rfl : j = i := by omega
                  omega) (by omega) _ (lv_sub hl [2, 3, 1, 0] rfl)
          · refine lv_iconst (v := iI (-1)) hx hb dMO_closed_24 rfl ?_
            exact hret 25 ls (-1) (times_out (t := i) (by omega) (by omega)).symm dMO_closed_25
  exact lp4 _ 0 (by omega) (fun j hj => absurd hj (Nat.not_lt_zero _)) (Nat.lt_succ_self _) _ (lv_sub hl [2, 3, 1, 0] rfl)

def rmMO_times : Room := { frames := 1, cells := 0, slots := 0, locals := 25 }
set_option maxHeartbeats 4000000 in
set_option maxRecDepth 100000 in
theorem mMO_times (l : Launch) (D : va_G) (cI cJ cZ : ClassId) (q : MoA) (cn gn ln : Int) (p9 q9 : Int) (fa ga fb gb fd gd : Nat → Int) (hp : kOK p9) (hq : kOK q9) : zI l yMO_times wMO_times rmMO_times D vwCl (zM cI cJ cZ) [.ref q.mo, .int (iI p9), .int (iI q9)] [(moC q cn gn ln), (q.xa, .inl (cI, 9, .inl (zf fa))), (q.ya, .inl (cI, 3, .inl (zf ga))), (q.xb, .inl (cI, 9, .inl (zf fb))), (q.yb, .inl (cI, 3, .inl (zf gb))), (q.xd, .inl (cI, 9, .inl (zf fd))), (q.yd, .inl (cI, 3, .inl (zf gd)))] (S := ((Nat → Int) × (Nat → Int) × (Nat → Int) × (Nat → Int) × (Nat → Int) × (Nat → Int))) (fun z u => z = timesK p9 q9) (fun u => [(moC q cn gn ln), (q.xa, .inl (cI, 9, .inl (zf u.1))), (q.ya, .inl (cI, 3, .inl (zf u.2.1))), (q.xb, .inl (cI, 9, .inl (zf u.2.2.1))), (q.yb, .inl (cI, 3, .inl (zf u.2.2.2.1))), (q.xd, .inl (cI, 9, .inl (zf u.2.2.2.2.1))), (q.yd, .inl (cI, 3, .inl (zf u.2.2.2.2.2)))]) := by
  refine zI.of (cc := cMO_times) (maxL := 5) (rt := .int) (by decide) rfl (Nat.le_of_ble_eq_true rfl) (fun _ _ _ => rfl) ?_
  intro p e s m args below meth c A ls Q hx hb hml hown hts hnm hK hD hA hAe hX hl hret H locs hP hS
  have hl : lv_has ls 5 [(0, .ref q.mo), (1, .int (iI p9)), (2, .int (iI q9))] := hl
  refine lv_iload_n hx hb dMO_times_0 rfl (lv_at hl 1 rfl) ?_
  refine lv_aload_n hx hb dMO_times_1 rfl (lv_at hl 0 rfl) ?_
  refine va_get (D := D) (ci := 7) (v := .ref q.xa) (C := nMO) (T := fMO) (N := 24) hx hb hts iwMO hown hK hP 0 rfl rfl 0 (by decide) (hts _ (List.mem_cons_of_mem _ lkMO_7)) (fun _ h9 => h9) rfl dMO_times_2 ?_
  refine lv_aload_n hx hb dMO_times_5 rfl (lv_at hl 0 rfl) ?_
  refine va_get (D := D) (ci := 7) (v := .ref q.ya) (C := nMO) (T := fMO) (N := 24) hx hb hts iwMO hown hK hP 0 rfl rfl 1 (by decide) (hts _ (List.mem_cons_of_mem _ lkMO_13)) (fun _ h9 => h9) rfl dMO_times_6 ?_
  refine zV.back (va_runS (As := [.int (iI p9), .ref q.xa, .ref q.ya]) (rest := []) ⟨hx, hb, hml, hown, hts⟩ ((mMO_open l D cI cJ cZ p9 q.xa q.ya fa ga hp) H.size) (va_cwS 3 hts (gT1 lkMO_76 (gT1 smMO_open (gT1 iniMO (gTW kcMO_open)))) rfl rfl rfl (by decide +kernel) ⟨Nat.le_of_ble_eq_true rfl, Nat.le_of_ble_eq_true rfl⟩) ⟨zPre_blind, zPre.at (wc := [(q.xa, .inl (cI, 9, .inl (zf fa))), (q.ya, .inl (cI, 3, .inl (zf ga)))]) hK hP hD hS hA hX [1, 2] (by decide) rfl⟩ rfl rfl hl.1 rfl (lv_room (Nat.le_of_ble_eq_true rfl)) dMO_times_9 ⟨Nat.le_of_ble_eq_true rfl, Nat.le_of_ble_eq_true rfl⟩) (wr := [(moC q cn gn ln), (q.xb, .inl (cI, 9, .inl (zf fb))), (q.yb, .inl (cI, 3, .inl (zf gb))), (q.xd, .inl (cI, 9, .inl (zf fd))), (q.yd, .inl (cI, 3, .inl (zf gd)))]) hP hD hS hA [1, 2] [0, 3, 4, 5, 6] rfl rfl (by decide) (by decide) (fun u_9 H locs q_9 hP hD hS hz_9 hk_9 => ?_)
  obtain ⟨f1, g1⟩ := u_9
  obtain ⟨hf1, hg1⟩ := q_9
  have hf1 : ∀ j, j < 9 → f1 j = mdg p9 j := hf1
  have hg1 : ∀ j, j < 3 → g1 j = sdg p9 j := hg1
  have hP : va_P D vwCl [(moC q cn gn ln), (q.xb, .inl (cI, 9, .inl (zf fb))), (q.yb, .inl (cI, 3, .inl (zf gb))), (q.xd, .inl (cI, 9, .inl (zf fd))), (q.yd, .inl (cI, 3, .inl (zf gd))), (q.xa, .inl (cI, 9, .inl (zf f1))), (q.ya, .inl (cI, 3, .inl (zf g1)))] H := hP
  have hD : va_D A [(moC q cn gn ln), (q.xb, .inl (cI, 9, .inl (zf fb))), (q.yb, .inl (cI, 3, .inl (zf gb))), (q.xd, .inl (cI, 9, .inl (zf fd))), (q.yd, .inl (cI, 3, .inl (zf gd))), (q.xa, .inl (cI, 9, .inl (zf f1))), (q.ya, .inl (cI, 3, .inl (zf g1)))] := hD
  refine lv_iload_n hx hb dMO_times_12 rfl (lv_at hl 2 rfl) ?_
  refine lv_aload_n hx hb dMO_times_13 rfl (lv_at hl 0 rfl) ?_
  refine va_get (D := D) (ci := 7) (v := .ref q.xb) (C := nMO) (T := fMO) (N := 24) hx hb hts iwMO hown hK hP 0 rfl rfl 2 (by decide) (hts _ (List.mem_cons_of_mem _ lkMO_16)) (fun _ h9 => h9) rfl dMO_times_14 ?_
  refine lv_aload_n hx hb dMO_times_17 rfl (lv_at hl 0 rfl) ?_
  refine va_get (D := D) (ci := 7) (v := .ref q.yb) (C := nMO) (T := fMO) (N := 24) hx hb hts iwMO hown hK hP 0 rfl rfl 3 (by decide) (hts _ (List.mem_cons_of_mem _ lkMO_19)) (fun _ h9 => h9) rfl dMO_times_18 ?_
  refine zV.back (va_runS (As := [.int (iI q9), .ref q.xb, .ref q.yb]) (rest := []) ⟨hx, hb, hml, hown, hts⟩ ((mMO_open l D cI cJ cZ q9 q.xb q.yb fb gb hq) H.size) (va_cwS 3 hts (gT1 lkMO_76 (gT1 smMO_open (gT1 iniMO (gTW kcMO_open)))) rfl rfl rfl (by decide +kernel) ⟨Nat.le_of_ble_eq_true rfl, Nat.le_of_ble_eq_true rfl⟩) ⟨zPre_blind, zPre.at (wc := [(q.xb, .inl (cI, 9, .inl (zf fb))), (q.yb, .inl (cI, 3, .inl (zf gb)))]) hK hP hD hS hA hX [1, 2] (by decide) rfl⟩ rfl rfl hl.1 rfl (lv_room (Nat.le_of_ble_eq_true rfl)) dMO_times_21 ⟨Nat.le_of_ble_eq_true rfl, Nat.le_of_ble_eq_true rfl⟩) (wr := [(moC q cn gn ln), (q.xd, .inl (cI, 9, .inl (zf fd))), (q.yd, .inl (cI, 3, .inl (zf gd))), (q.xa, .inl (cI, 9, .inl (zf f1))), (q.ya, .inl (cI, 3, .inl (zf g1)))]) hP hD hS hA [1, 2] [0, 3, 4, 5, 6] rfl rfl (by decide) (by decide) (fun u_21 H locs q_21 hP hD hS hz_21 hk_21 => ?_)
  obtain ⟨f2, g2⟩ := u_21
  obtain ⟨hf2, hg2⟩ := q_21
  have hf2 : ∀ j, j < 9 → f2 j = mdg q9 j := hf2
  have hg2 : ∀ j, j < 3 → g2 j = sdg q9 j := hg2
  have hP : va_P D vwCl [(moC q cn gn ln), (q.xd, .inl (cI, 9, .inl (zf fd))), (q.yd, .inl (cI, 3, .inl (zf gd))), (q.xa, .inl (cI, 9, .inl (zf f1))), (q.ya, .inl (cI, 3, .inl (zf g1))), (q.xb, .inl (cI, 9, .inl (zf f2))), (q.yb, .inl (cI, 3, .inl (zf g2)))] H := hP
  have hD : va_D A [(moC q cn gn ln), (q.xd, .inl (cI, 9, .inl (zf fd))), (q.yd, .inl (cI, 3, .inl (zf gd))), (q.xa, .inl (cI, 9, .inl (zf f1))), (q.ya, .inl (cI, 3, .inl (zf g1))), (q.xb, .inl (cI, 9, .inl (zf f2))), (q.yb, .inl (cI, 3, .inl (zf g2)))] := hD
  refine lv_iconst (v := iI (0)) hx hb dMO_times_24 rfl ?_
  refine lv_istore_n (lv' := [(3, .int (iI 0)), (0, .ref q.mo), (1, .int (iI p9)), (2, .int (iI q9))]) hx hb dMO_times_25 rfl hl (by decide) rfl (fun ls hl => ?_)
  have lp26 : ∀ (n9 : Nat) (i : Nat) (fd1 gd1 : Nat → Int), (i ≤ 3) → (∀ t, t < 3 * i → fd1 t = prodD p9 q9 t) → (∀ t, t < i → gd1 t = tshV p9 q9 t % 24) → (3 - i) < n9 → ∀ (H : Heap) (locs : List Loc), va_P D vwCl [(moC q cn gn ln), (q.xa, .inl (cI, 9, .inl (zf f1))), (q.ya, .inl (cI, 3, .inl (zf g1))), (q.xb, .inl (cI, 9, .inl (zf f2))), (q.yb, .inl (cI, 3, .inl (zf g2))), (q.xd, .inl (cI, 9, .inl (zf fd1))), (q.yd, .inl (cI, 3, .inl (zf gd1)))] H → va_D A [(moC q cn gn ln), (q.xa, .inl (cI, 9, .inl (zf f1))), (q.ya, .inl (cI, 3, .inl (zf g1))), (q.xb, .inl (cI, 9, .inl (zf f2))), (q.yb, .inl (cI, 3, .inl (zf g2))), (q.xd, .inl (cI, 9, .inl (zf fd1))), (q.yd, .inl (cI, 3, .inl (zf gd1)))] → va_S A s.heap H locs → ∀ (ls : Array Slot), lv_has ls 5 [(0, .ref q.mo), (1, .int (iI p9)), (2, .int (iI q9)), (3, .int (iI (i : Int)))] → W p l e (headSpec wMO_times rmMO_times).room s m args below meth c H locs 0 0 Q (F0 m 26 ls []) := by
    intro n9
    induction n9 with
    | zero => intro i fd1 gd1 hi h1 h2 hm; exact absurd hm (Nat.not_lt_zero _)
    | succ n9 ih26 =>
      intro i fd1 gd1 hi h1 h2 hm26 H locs hP hD hS ls hl
      refine lv_iload_n hx hb dMO_times_26 rfl (lv_at hl 3 rfl) ?_
      refine lv_iconst (v := iI (3)) hx hb dMO_times_27 rfl ?_
      refine lz_icmp_ge (tgt := 199) hx hb dMO_times_28 (by decide) (by omega) (by omega) (fun c_28 => ?_) (fun c_28 => ?_)
      · refine lv_aload_n hx hb dMO_times_199 rfl (lv_at hl 0 rfl) ?_
        refine va_get (D := D) (ci := 7) (v := .ref q.xd) (C := nMO) (T := fMO) (N := 24) hx hb hts iwMO hown hK hP 0 rfl rfl 22 (by decide) (hts _ (List.mem_cons_of_mem _ lkMO_70)) (fun _ h9 => h9) rfl dMO_times_200 ?_
        refine lv_aload_n hx hb dMO_times_203 rfl (lv_at hl 0 rfl) ?_
        refine va_get (D := D) (ci := 7) (v := .ref q.yd) (C := nMO) (T := fMO) (N := 24) hx hb hts iwMO hown hK hP 0 rfl rfl 23 (by decide) (hts _ (List.mem_cons_of_mem _ lkMO_73)) (fun _ h9 => h9) rfl dMO_times_204 ?_
        refine zRI.back ((va_runS (As := [.ref q.xd, .ref q.yd]) (rest := []) ⟨hx, hb, hml, hown, hts⟩ (mMO_closed l D cI cJ cZ q.xd q.yd fd1 gd1 p9 q9 (fun j hj => h1 j (by omega)) (by rw [h2 0 (by omega), h2 1 (by omega), h2 2 (by omega)]; exact times_sh p9 q9)) (va_cwS 2 hts (gT1 lkMO_80 (gT1 smMO_closed (gT1 iniMO (gTW kcMO_closed)))) rfl rfl rfl (by decide +kernel) ⟨Nat.le_of_ble_eq_true rfl, Nat.le_of_ble_eq_true rfl⟩) ⟨zRd_blind, zRd.at (wc := [(q.xd, .inl (cI, 9, .inl (zf fd1))), (q.yd, .inl (cI, 3, .inl (zf gd1)))]) hK (hP.sub (ws' := [(q.xd, .inl (cI, 9, .inl (zf fd1))), (q.yd, .inl (cI, 3, .inl (zf gd1)))]) [5, 6] rfl) (stF.now hX hS)⟩ rfl rfl hl.1 rfl (lv_room (Nat.le_of_ble_eq_true rfl)) dMO_times_207 ⟨Nat.le_of_ble_eq_true rfl, Nat.le_of_ble_eq_true rfl⟩).run) (fun z_207 q_207 => ?_)
        exact hret H locs 0 0 210 ls z_207 (f1, g1, f2, g2, fd1, gd1) q_207 (hP.sub [0, 1, 2, 3, 4, 5, 6] rfl) (hD.sub [0, 1, 2, 3, 4, 5, 6] (by decide) rfl) hS (Nat.zero_le _) (Nat.zero_le _) dMO_times_210
      · refine lv_iconst (v := iI (0)) hx hb dMO_times_31 rfl ?_
        refine lv_istore (lv' := [(4, .int (iI 0)), (0, .ref q.mo), (1, .int (iI p9)), (2, .int (iI q9)), (3, .int (iI (i : Int)))]) hx hb dMO_times_32 hl (by decide) rfl (fun ls hl => ?_)
        have lp34 : ∀ (n9 : Nat) (j : Nat) (fd2 : Nat → Int), (j ≤ 3) → (∀ t, t < 3 * i + j → fd2 t = prodD p9 q9 t) → (3 - j) < n9 → ∀ (H : Heap) (locs : List Loc), va_P D vwCl [(moC q cn gn ln), (q.xa, .inl (cI, 9, .inl (zf f1))), (q.ya, .inl (cI, 3, .inl (zf g1))), (q.xb, .inl (cI, 9, .inl (zf f2))), (q.yb, .inl (cI, 3, .inl (zf g2))), (q.xd, .inl (cI, 9, .inl (zf fd2))), (q.yd, .inl (cI, 3, .inl (zf gd1)))] H → va_D A [(moC q cn gn ln), (q.xa, .inl (cI, 9, .inl (zf f1))), (q.ya, .inl (cI, 3, .inl (zf g1))), (q.xb, .inl (cI, 9, .inl (zf f2))), (q.yb, .inl (cI, 3, .inl (zf g2))), (q.xd, .inl (cI, 9, .inl (zf fd2))), (q.yd, .inl (cI, 3, .inl (zf gd1)))] → va_S A s.heap H locs → ∀ (ls : Array Slot), lv_has ls 5 [(0, .ref q.mo), (1, .int (iI p9)), (2, .int (iI q9)), (3, .int (iI (i : Int))), (4, .int (iI (j : Int)))] → W p l e (headSpec wMO_times rmMO_times).room s m args below meth c H locs 0 0 Q (F0 m 34 ls []) := by
          intro n9
          induction n9 with
          | zero => intro j fd2 hj h3 hm; exact absurd hm (Nat.not_lt_zero _)
          | succ n9 ih34 =>
            intro j fd2 hj h3 hm34 H locs hP hD hS ls hl
            refine lv_iload hx hb dMO_times_34 (lv_at hl 4 rfl) ?_
            refine lv_iconst (v := iI (3)) hx hb dMO_times_36 rfl ?_
            refine lz_icmp_ge (tgt := 116) hx hb dMO_times_37 (by decide) (by omega) (by omega) (fun c_37 => ?_) (fun c_37 => ?_)
            · refine lv_aload_n hx hb dMO_times_116 rfl (lv_at hl 0 rfl) ?_
              refine va_get (D := D) (ci := 7) (v := .ref q.xa) (C := nMO) (T := fMO) (N := 24) hx hb hts iwMO hown hK hP 0 rfl rfl 0 (by decide) (hts _ (List.mem_cons_of_mem _ lkMO_7)) (fun _ h9 => h9) rfl dMO_times_117 ?_
              refine lv_iconst (v := iI (3)) hx hb dMO_times_120 rfl ?_
              refine lv_iload_n hx hb dMO_times_121 rfl (lv_at hl 3 rfl) ?_
              refine lz_imul hx hb dMO_times_122 ?_
              refine lz_ialk hx hb hK hP 1 0 rfl rfl (z := 3 * (i : Int)) (3 * i) (by omega) (by omega) dMO_times_123 ?_
              refine lz_as (x := f1 (3 * i)) (y := mdg p9 (3 * i)) (hf1 _ (by omega)) ?_
              refine lv_aload_n hx hb dMO_times_124 rfl (lv_at hl 0 rfl) ?_
              refine va_get (D := D) (ci := 7) (v := .ref q.yb) (C := nMO) (T := fMO) (N := 24) hx hb hts iwMO hown hK hP 0 rfl rfl 3 (by decide) (hts _ (List.mem_cons_of_mem _ lkMO_19)) (fun _ h9 => h9) rfl dMO_times_125 ?_
              refine lv_iconst (v := iI (0)) hx hb dMO_times_128 rfl ?_
              refine lz_ialk hx hb hK hP 4 0 rfl rfl (z := 0) 0 rfl (by omega) dMO_times_129 ?_
              refine lz_as (x := g2 0) (y := sdg q9 0) (hg2 0 (by omega)) ?_
              refine lz_imul hx hb dMO_times_130 ?_
              refine lv_aload_n hx hb dMO_times_131 rfl (lv_at hl 0 rfl) ?_
              refine va_get (D := D) (ci := 7) (v := .ref q.xa) (C := nMO) (T := fMO) (N := 24) hx hb hts iwMO hown hK hP 0 rfl rfl 0 (by decide) (hts _ (List.mem_cons_of_mem _ lkMO_7)) (fun _ h9 => h9) rfl dMO_times_132 ?_
              refine lv_iconst (v := iI (3)) hx hb dMO_times_135 rfl ?_
              refine lv_iload_n hx hb dMO_times_136 rfl (lv_at hl 3 rfl) ?_
              refine lz_imul hx hb dMO_times_137 ?_
              refine lv_iconst (v := iI (1)) hx hb dMO_times_138 rfl ?_
              refine lz_iadd hx hb dMO_times_139 ?_
              refine lz_ialk hx hb hK hP 1 0 rfl rfl (z := (3 * (i : Int)) + 1) (3 * i + 1) (by omega) (by omega) dMO_times_140 ?_
              refine lz_as (x := f1 (3 * i + 1)) (y := mdg p9 (3 * i + 1)) (hf1 _ (by omega)) ?_
              refine lv_aload_n hx hb dMO_times_141 rfl (lv_at hl 0 rfl) ?_
              refine va_get (D := D) (ci := 7) (v := .ref q.yb) (C := nMO) (T := fMO) (N := 24) hx hb hts iwMO hown hK hP 0 rfl rfl 3 (by decide) (hts _ (List.mem_cons_of_mem _ lkMO_19)) (fun _ h9 => h9) rfl dMO_times_142 ?_
              refine lv_iconst (v := iI (1)) hx hb dMO_times_145 rfl ?_
              refine lz_ialk hx hb hK hP 4 0 rfl rfl (z := 1) 1 rfl (by omega) dMO_times_146 ?_
              refine lz_as (x := g2 1) (y := sdg q9 1) (hg2 1 (by omega)) ?_
              refine lz_imul hx hb dMO_times_147 ?_
              refine lz_iadd hx hb dMO_times_148 ?_
              refine lv_aload_n hx hb dMO_times_149 rfl (lv_at hl 0 rfl) ?_
              refine va_get (D := D) (ci := 7) (v := .ref q.xa) (C := nMO) (T := fMO) (N := 24) hx hb hts iwMO hown hK hP 0 rfl rfl 0 (by decide) (hts _ (List.mem_cons_of_mem _ lkMO_7)) (fun _ h9 => h9) rfl dMO_times_150 ?_
              refine lv_iconst (v := iI (3)) hx hb dMO_times_153 rfl ?_
              refine lv_iload_n hx hb dMO_times_154 rfl (lv_at hl 3 rfl) ?_
              refine lz_imul hx hb dMO_times_155 ?_
              refine lv_iconst (v := iI (2)) hx hb dMO_times_156 rfl ?_
              refine lz_iadd hx hb dMO_times_157 ?_
              refine lz_ialk hx hb hK hP 1 0 rfl rfl (z := (3 * (i : Int)) + 2) (3 * i + 2) (by omega) (by omega) dMO_times_158 ?_
              refine lz_as (x := f1 (3 * i + 2)) (y := mdg p9 (3 * i + 2)) (hf1 _ (by omega)) ?_
              refine lv_aload_n hx hb dMO_times_159 rfl (lv_at hl 0 rfl) ?_
              refine va_get (D := D) (ci := 7) (v := .ref q.yb) (C := nMO) (T := fMO) (N := 24) hx hb hts iwMO hown hK hP 0 rfl rfl 3 (by decide) (hts _ (List.mem_cons_of_mem _ lkMO_19)) (fun _ h9 => h9) rfl dMO_times_160 ?_
              refine lv_iconst (v := iI (2)) hx hb dMO_times_163 rfl ?_
              refine lz_ialk hx hb hK hP 4 0 rfl rfl (z := 2) 2 rfl (by omega) dMO_times_164 ?_
              refine lz_as (x := g2 2) (y := sdg q9 2) (hg2 2 (by omega)) ?_
              refine lz_imul hx hb dMO_times_165 ?_
              refine lz_iadd hx hb dMO_times_166 ?_
              refine lv_aload_n hx hb dMO_times_167 rfl (lv_at hl 0 rfl) ?_
              refine va_get (D := D) (ci := 7) (v := .ref q.ya) (C := nMO) (T := fMO) (N := 24) hx hb hts iwMO hown hK hP 0 rfl rfl 1 (by decide) (hts _ (List.mem_cons_of_mem _ lkMO_13)) (fun _ h9 => h9) rfl dMO_times_168 ?_
              refine lv_iload_n hx hb dMO_times_171 rfl (lv_at hl 3 rfl) ?_
              refine lz_ialk hx hb hK hP 2 0 rfl rfl (z := (i : Int)) i rfl (by omega) dMO_times_172 ?_
              refine lz_as (x := g1 i) (y := sdg p9 i) (hg1 _ (by omega)) ?_
              refine lz_iadd hx hb dMO_times_173 ?_
              refine lz_as (x := ((((mdg p9 (3 * i)) * (sdg q9 0)) + ((mdg p9 (3 * i + 1)) * (sdg q9 1))) + ((mdg p9 (3 * i + 2)) * (sdg q9 2))) + (sdg p9 i)) (y := tshV p9 q9 i) (rfl) ?_
              refine lv_istore (lv' := [(4, .int (iI (tshV p9 q9 i))), (0, .ref q.mo), (1, .int (iI p9)), (2, .int (iI q9)), (3, .int (iI (i : Int)))]) hx hb dMO_times_174 hl (by decide) rfl (fun ls hl => ?_)
              refine lv_aload_n hx hb dMO_times_176 rfl (lv_at hl 1 rfl) ?_
              refine va_get (D := D) (ci := 7) (v := .ref q.yd) (C := nMO) (T := fMO) (N := 24) hx hb hts iwMO hown hK hP 0 rfl rfl 23 (by decide) (hts _ (List.mem_cons_of_mem _ lkMO_73)) (fun _ h9 => h9) rfl dMO_times_177 ?_
              refine lv_iload_n hx hb dMO_times_180 rfl (lv_at hl 4 rfl) ?_
              refine lv_iload hx hb dMO_times_181 (lv_at hl 0 rfl) ?_
              refine lv_bipush (v := iI (24)) hx hb dMO_times_183 (by decide) ?_
              refine lz_iremT hx hb dMO_times_185 (by have := tshV_rng p9 q9 i; omega) (by omega) ?_
              refine lv_bipush (v := iI (24)) hx hb dMO_times_186 (by decide) ?_
              refine lz_iadd hx hb dMO_times_188 ?_
              refine lv_bipush (v := iI (24)) hx hb dMO_times_189 (by decide) ?_
              refine lz_irem hx hb dMO_times_191 (by have := tmod24_b (tshV p9 q9 i); omega) (by omega) ?_
              refine lz_as (x := (((tshV p9 q9 i).tmod 24) + 24) % 24) (y := tshV p9 q9 i % 24) (tmod24 _) ?_
              refine lz_iask hx hb hK hP hD hS 6 0 rfl rfl (z := (i : Int)) (v := tshV p9 q9 i % 24) i rfl (by omega) dMO_times_192 (fun H locs hP hD hS => ?_)
              have hP : va_P D vwCl [(moC q cn gn ln), (q.xa, .inl (cI, 9, .inl (zf f1))), (q.ya, .inl (cI, 3, .inl (zf g1))), (q.xb, .inl (cI, 9, .inl (zf f2))), (q.yb, .inl (cI, 3, .inl (zf g2))), (q.xd, .inl (cI, 9, .inl (zf fd2))), (q.yd, .inl (cI, 3, .inl (zf (zu gd1 i (tshV p9 q9 i % 24)))))] H := hP
              have hD : va_D A [(moC q cn gn ln), (q.xa, .inl (cI, 9, .inl (zf f1))), (q.ya, .inl (cI, 3, .inl (zf g1))), (q.xb, .inl (cI, 9, .inl (zf f2))), (q.yb, .inl (cI, 3, .inl (zf g2))), (q.xd, .inl (cI, 9, .inl (zf fd2))), (q.yd, .inl (cI, 3, .inl (zf (zu gd1 i (tshV p9 q9 i % 24)))))] := hD
              refine lz_iinc (lv' := [(3, .int (iI ((i : Int) + 1))), (4, .int (iI (tshV p9 q9 i))), (0, .ref q.mo), (1, .int (iI p9)), (2, .int (iI q9))]) hx hb dMO_times_193 hl (k := 4) rfl (by decide) rfl (fun ls hl => ?_)
              refine lv_goto (tgt := 26) hx hb dMO_times_196 (by decide) ?_
              exact ih26 (i + 1) fd2 (zu gd1 i (tshV p9 q9 i % 24)) (by omega) (fun t ht => h3 t (by omega)) (fun t ht => by
                  by_cases e : t = i
                  · rw [e, zu_s]
                  · rw [zu_n _ _ e]; exact h2 t (by omega)) (by omega) _ _ (hP.sub [0, 1, 2, 3, 4, 5, 6] rfl) (hD.sub [0, 1, 2, 3, 4, 5, 6] (by decide) rfl) hS _ (lv_sub hl [2, 3, 4, 0] rfl)
            · refine lv_aload_n hx hb dMO_times_40 rfl (lv_at hl 0 rfl) ?_
              refine va_get (D := D) (ci := 7) (v := .ref q.xd) (C := nMO) (T := fMO) (N := 24) hx hb hts iwMO hown hK hP 0 rfl rfl 22 (by decide) (hts _ (List.mem_cons_of_mem _ lkMO_70)) (fun _ h9 => h9) rfl dMO_times_41 ?_
              refine lv_iconst (v := iI (3)) hx hb dMO_times_44 rfl ?_
              refine lv_iload_n hx hb dMO_times_45 rfl (lv_at hl 3 rfl) ?_
              refine lz_imul hx hb dMO_times_46 ?_
              refine lv_iload hx hb dMO_times_47 (lv_at hl 4 rfl) ?_
              refine lz_iadd hx hb dMO_times_49 ?_
              refine lv_aload_n hx hb dMO_times_50 rfl (lv_at hl 0 rfl) ?_
              refine va_get (D := D) (ci := 7) (v := .ref q.xa) (C := nMO) (T := fMO) (N := 24) hx hb hts iwMO hown hK hP 0 rfl rfl 0 (by decide) (hts _ (List.mem_cons_of_mem _ lkMO_7)) (fun _ h9 => h9) rfl dMO_times_51 ?_
              refine lv_iconst (v := iI (3)) hx hb dMO_times_54 rfl ?_
              refine lv_iload_n hx hb dMO_times_55 rfl (lv_at hl 3 rfl) ?_
              refine lz_imul hx hb dMO_times_56 ?_
              refine lz_ialk hx hb hK hP 1 0 rfl rfl (z := 3 * (i : Int)) (3 * i) (by omega) (by omega) dMO_times_57 ?_
              refine lz_as (x := f1 (3 * i)) (y := mdg p9 (3 * i)) (hf1 _ (by omega)) ?_
              refine lv_aload_n hx hb dMO_times_58 rfl (lv_at hl 0 rfl) ?_
              refine va_get (D := D) (ci := 7) (v := .ref q.xb) (C := nMO) (T := fMO) (N := 24) hx hb hts iwMO hown hK hP 0 rfl rfl 2 (by decide) (hts _ (List.mem_cons_of_mem _ lkMO_16)) (fun _ h9 => h9) rfl dMO_times_59 ?_
              refine lv_iload hx hb dMO_times_62 (lv_at hl 4 rfl) ?_
              refine lz_ialk hx hb hK hP 3 0 rfl rfl (z := (j : Int)) j rfl (by omega) dMO_times_64 ?_
              refine lz_as (x := f2 j) (y := mdg q9 j) (hf2 _ (by omega)) ?_
              refine lz_imul hx hb dMO_times_65 ?_
              refine lv_aload_n hx hb dMO_times_66 rfl (lv_at hl 0 rfl) ?_
              refine va_get (D := D) (ci := 7) (v := .ref q.xa) (C := nMO) (T := fMO) (N := 24) hx hb hts iwMO hown hK hP 0 rfl rfl 0 (by decide) (hts _ (List.mem_cons_of_mem _ lkMO_7)) (fun _ h9 => h9) rfl dMO_times_67 ?_
              refine lv_iconst (v := iI (3)) hx hb dMO_times_70 rfl ?_
              refine lv_iload_n hx hb dMO_times_71 rfl (lv_at hl 3 rfl) ?_
              refine lz_imul hx hb dMO_times_72 ?_
              refine lv_iconst (v := iI (1)) hx hb dMO_times_73 rfl ?_
              refine lz_iadd hx hb dMO_times_74 ?_
              refine lz_ialk hx hb hK hP 1 0 rfl rfl (z := (3 * (i : Int)) + 1) (3 * i + 1) (by omega) (by omega) dMO_times_75 ?_
              refine lz_as (x := f1 (3 * i + 1)) (y := mdg p9 (3 * i + 1)) (hf1 _ (by omega)) ?_
              refine lv_aload_n hx hb dMO_times_76 rfl (lv_at hl 0 rfl) ?_
              refine va_get (D := D) (ci := 7) (v := .ref q.xb) (C := nMO) (T := fMO) (N := 24) hx hb hts iwMO hown hK hP 0 rfl rfl 2 (by decide) (hts _ (List.mem_cons_of_mem _ lkMO_16)) (fun _ h9 => h9) rfl dMO_times_77 ?_
              refine lv_iconst (v := iI (3)) hx hb dMO_times_80 rfl ?_
              refine lv_iload hx hb dMO_times_81 (lv_at hl 4 rfl) ?_
              refine lz_iadd hx hb dMO_times_83 ?_
              refine lz_ialk hx hb hK hP 3 0 rfl rfl (z := 3 + (j : Int)) (j + 3) (by omega) (by omega) dMO_times_84 ?_
              refine lz_as (x := f2 (j + 3)) (y := mdg q9 (j + 3)) (hf2 _ (by omega)) ?_
              refine lz_imul hx hb dMO_times_85 ?_
              refine lz_iadd hx hb dMO_times_86 ?_
              refine lv_aload_n hx hb dMO_times_87 rfl (lv_at hl 0 rfl) ?_
              refine va_get (D := D) (ci := 7) (v := .ref q.xa) (C := nMO) (T := fMO) (N := 24) hx hb hts iwMO hown hK hP 0 rfl rfl 0 (by decide) (hts _ (List.mem_cons_of_mem _ lkMO_7)) (fun _ h9 => h9) rfl dMO_times_88 ?_
              refine lv_iconst (v := iI (3)) hx hb dMO_times_91 rfl ?_
              refine lv_iload_n hx hb dMO_times_92 rfl (lv_at hl 3 rfl) ?_
              refine lz_imul hx hb dMO_times_93 ?_
              refine lv_iconst (v := iI (2)) hx hb dMO_times_94 rfl ?_
              refine lz_iadd hx hb dMO_times_95 ?_
              refine lz_ialk hx hb hK hP 1 0 rfl rfl (z := (3 * (i : Int)) + 2) (3 * i + 2) (by omega) (by omega) dMO_times_96 ?_
              refine lz_as (x := f1 (3 * i + 2)) (y := mdg p9 (3 * i + 2)) (hf1 _ (by omega)) ?_
              refine lv_aload_n hx hb dMO_times_97 rfl (lv_at hl 0 rfl) ?_
              refine va_get (D := D) (ci := 7) (v := .ref q.xb) (C := nMO) (T := fMO) (N := 24) hx hb hts iwMO hown hK hP 0 rfl rfl 2 (by decide) (hts _ (List.mem_cons_of_mem _ lkMO_16)) (fun _ h9 => h9) rfl dMO_times_98 ?_
              refine lv_bipush (v := iI (6)) hx hb dMO_times_101 (by decide) ?_
              refine lv_iload hx hb dMO_times_103 (lv_at hl 4 rfl) ?_
              refine lz_iadd hx hb dMO_times_105 ?_
              refine lz_ialk hx hb hK hP 3 0 rfl rfl (z := 6 + (j : Int)) (j + 6) (by omega) (by omega) dMO_times_106 ?_
              refine lz_as (x := f2 (j + 6)) (y := mdg q9 (j + 6)) (hf2 _ (by omega)) ?_
              refine lz_imul hx hb dMO_times_107 ?_
              refine lz_iadd hx hb dMO_times_108 ?_
              refine lz_as (x := (((mdg p9 (3 * i)) * (mdg q9 j)) + ((mdg p9 (3 * i + 1)) * (mdg q9 (j + 3)))) + ((mdg p9 (3 * i + 2)) * (mdg q9 (j + 6)))) (y := prodD p9 q9 (3 * i + j)) ((prodD_at p9 q9 (by omega)).symm) ?_
              refine lz_iask hx hb hK hP hD hS 5 0 rfl rfl (z := (3 * (i : Int)) + (j : Int)) (v := prodD p9 q9 (3 * i + j)) (3 * i + j) (by omega) (by omega) dMO_times_109 (fun H locs hP hD hS => ?_)
              have hP : va_P D vwCl [(moC q cn gn ln), (q.xa, .inl (cI, 9, .inl (zf f1))), (q.ya, .inl (cI, 3, .inl (zf g1))), (q.xb, .inl (cI, 9, .inl (zf f2))), (q.yb, .inl (cI, 3, .inl (zf g2))), (q.xd, .inl (cI, 9, .inl (zf (zu fd2 (3 * i + j) (prodD p9 q9 (3 * i + j)))))), (q.yd, .inl (cI, 3, .inl (zf gd1)))] H := hP
              have hD : va_D A [(moC q cn gn ln), (q.xa, .inl (cI, 9, .inl (zf f1))), (q.ya, .inl (cI, 3, .inl (zf g1))), (q.xb, .inl (cI, 9, .inl (zf f2))), (q.yb, .inl (cI, 3, .inl (zf g2))), (q.xd, .inl (cI, 9, .inl (zf (zu fd2 (3 * i + j) (prodD p9 q9 (3 * i + j)))))), (q.yd, .inl (cI, 3, .inl (zf gd1)))] := hD
              refine lz_iinc (lv' := [(4, .int (iI ((j : Int) + 1))), (0, .ref q.mo), (1, .int (iI p9)), (2, .int (iI q9)), (3, .int (iI (i : Int)))]) hx hb dMO_times_110 hl (k := 4) rfl (by decide) rfl (fun ls hl => ?_)
              refine lv_goto (tgt := 34) hx hb dMO_times_113 (by decide) ?_
              exact ih34 (j + 1) (zu fd2 (3 * i + j) (prodD p9 q9 (3 * i + j))) (by omega) (fun t ht => by
                  by_cases e : t = 3 * i + j
                  · rw [e, zu_s]
                  · rw [zu_n _ _ e]; exact h3 t (by omega)) (by omega) _ _ (hP.sub [0, 1, 2, 3, 4, 5, 6] rfl) (hD.sub [0, 1, 2, 3, 4, 5, 6] (by decide) rfl) hS _ (lv_sub hl [1, 2, 3, 4, 0] rfl)
        exact lp34 _ 0 fd1 (by omega) (fun t ht => h1 t (by omega)) (Nat.lt_succ_self _) _ _ (hP.sub [0, 1, 2, 3, 4, 5, 6] rfl) (hD.sub [0, 1, 2, 3, 4, 5, 6] (by decide) rfl) hS _ (lv_sub hl [1, 2, 3, 4, 0] rfl)
  exact lp26 _ 0 fd gd (by omega) (fun t ht => by omega) (fun t ht => by omega) (Nat.lt_succ_self _) _ _ (hP.sub [0, 3, 4, 5, 6, 1, 2] rfl) (hD.sub [0, 3, 4, 5, 6, 1, 2] (by decide) rfl) hS _ (lv_sub hl [1, 2, 3, 0] rfl)

def rmMO_sortOf : Room := { frames := 1, cells := 0, slots := 0, locals := 20 }
set_option maxHeartbeats 4000000 in
set_option maxRecDepth 100000 in
theorem mMO_sortOf (l : Launch) (D : va_G) (cI cJ cZ : ClassId) (am : Nat) (f : Nat → Int) (k9 : Int) (hf : ∀ j, j < 9 → f j = mdg k9 j) : zRI l yMO_sortOf wMO_sortOf rmMO_sortOf D vwCl (zM cI cJ cZ) [.ref am] [(am, .inl (cI, 9, .inl (zf f)))] (fun z => z = sortR k9) := by
  refine zRI.of (cc := cMO_sortOf) (maxL := 5) (rt := .int) (by decide) rfl (Nat.le_of_ble_eq_true rfl) (fun _ _ => rfl) ?_
  intro p e s m args below meth c ls Q hx hb hml hown hts hK hP hX hl hret
  have hS0 : va_S (fun _ => False) s.heap s.heap [] := va_S.rf
  have hl : lv_has ls 5 [(0, .ref am)] := hl
  have hdr := detF_rng k9
  have htr := trK_rng k9
  have hdt : -18 ≤ detF (mdg k9) * trK k9 ∧ detF (mdg k9) * trK k9 ≤ 18 := by
    generalize detF (mdg k9) = d at *
    generalize trK k9 = t at *
    rcases (show t = -3 ∨ t = -2 ∨ t = -1 ∨ t = 0 ∨ t = 1 ∨ t = 2 ∨ t = 3 by omega) with rfl | rfl | rfl | rfl | rfl | rfl | rfl <;> omega
  refine lv_aload_n hx hb dMO_sortOf_0 rfl (lv_at hl 0 rfl) ?_
  refine lv_iconst (v := iI (0)) hx hb dMO_sortOf_1 rfl ?_
  refine lz_ialk hx hb hK hP 0 0 rfl rfl (z := 0) 0 rfl (by omega) dMO_sortOf_2 ?_
  refine lv_aload_n hx hb dMO_sortOf_3 rfl (lv_at hl 0 rfl) ?_
  refine lv_iconst (v := iI (4)) hx hb dMO_sortOf_4 rfl ?_
  refine lz_ialk hx hb hK hP 0 0 rfl rfl (z := 4) 4 rfl (by omega) dMO_sortOf_5 ?_
  refine lz_iadd hx hb dMO_sortOf_6 ?_
  refine lv_aload_n hx hb dMO_sortOf_7 rfl (lv_at hl 0 rfl) ?_
  refine lv_bipush (v := iI (8)) hx hb dMO_sortOf_8 (by decide) ?_
  refine lz_ialk hx hb hK hP 0 0 rfl rfl (z := 8) 8 rfl (by omega) dMO_sortOf_10 ?_
  refine lz_iadd hx hb dMO_sortOf_11 ?_
  refine lz_as (x := ((f 0) + (f 4)) + (f 8)) (y := trK k9) (by rw [hf 0 (by omega), hf 4 (by omega), hf 8 (by omega)]; rfl) ?_
  refine lv_istore_n (lv' := [(1, .int (iI (trK k9))), (0, .ref am)]) hx hb dMO_sortOf_12 rfl hl (by decide) rfl (fun ls hl => ?_)
  refine lv_aload_n hx hb dMO_sortOf_13 rfl (lv_at hl 1 rfl) ?_
  refine zRI.back ((va_runS (As := [.ref am]) (rest := []) ⟨hx, hb, hml, hown, hts⟩ (mMO_determinant l D cI cJ cZ am f) (va_cwS 1 hts (gT1 lkMO_84 (gT1 smMO_determinant (gT1 iniMO (gTW kcMO_determinant)))) rfl rfl rfl (by decide +kernel) ⟨Nat.le_of_ble_eq_true rfl, Nat.le_of_ble_eq_true rfl⟩) ⟨zRd_blind, zRd.at (wc := [(am, .inl (cI, 9, .inl (zf f)))]) hK (hP.sub (ws' := [(am, .inl (cI, 9, .inl (zf f)))]) [0] rfl) hX⟩ rfl rfl hl.1 rfl (lv_room (Nat.le_of_ble_eq_true rfl)) dMO_sortOf_14 ⟨Nat.le_of_ble_eq_true rfl, Nat.le_of_ble_eq_true rfl⟩).run) (fun z_14 q_14 => ?_)
  obtain rfl : z_14 = detF (mdg k9) := by rw [q_14]; unfold detF; rw [hf 0 (by omega), hf 1 (by omega), hf 2 (by omega), hf 3 (by omega), hf 4 (by omega), hf 5 (by omega), hf 6 (by omega), hf 7 (by omega), hf 8 (by omega)]
  refine lv_istore_n (lv' := [(2, .int (iI (detF (mdg k9)))), (1, .int (iI (trK k9))), (0, .ref am)]) hx hb dMO_sortOf_17 rfl hl (by decide) rfl (fun ls hl => ?_)
  refine lv_iload_n hx hb dMO_sortOf_18 rfl (lv_at hl 0 rfl) ?_
  refine lv_iload_n hx hb dMO_sortOf_19 rfl (lv_at hl 1 rfl) ?_
  refine lz_imul hx hb dMO_sortOf_20 ?_
  refine lv_istore_n (lv' := [(3, .int (iI ((detF (mdg k9)) * (trK k9)))), (2, .int (iI (detF (mdg k9)))), (1, .int (iI (trK k9))), (0, .ref am)]) hx hb dMO_sortOf_21 rfl hl (by decide) rfl (fun ls hl => ?_)
  refine lv_iload_n hx hb dMO_sortOf_22 rfl (lv_at hl 0 rfl) ?_
  refine lv_iconst (v := iI (3)) hx hb dMO_sortOf_23 rfl ?_
  refine lz_icmp_ne (tgt := 31) hx hb dMO_sortOf_24 (by decide) (by omega) (by omega) (fun c_24 => ?_) (fun c_24 => ?_)
  · refine lv_iload_n hx hb dMO_sortOf_31 rfl (lv_at hl 0 rfl) ?_
    refine lv_iconst (v := iI (-1)) hx hb dMO_sortOf_32 rfl ?_
    refine lz_icmp_ne (tgt := 40) hx hb dMO_sortOf_33 (by decide) (by omega) (by omega) (fun c_33 => ?_) (fun c_33 => ?_)
    · refine lv_iload_n hx hb dMO_sortOf_40 rfl (lv_at hl 0 rfl) ?_
      refine lz_if_ne (tgt := 48) hx hb dMO_sortOf_41 (by decide) (by omega) (fun c_41 => ?_) (fun c_41 => ?_)
      · refine lv_iload_n hx hb dMO_sortOf_48 rfl (lv_at hl 0 rfl) ?_
        refine lv_iconst (v := iI (1)) hx hb dMO_sortOf_49 rfl ?_
        refine lz_icmp_ne (tgt := 57) hx hb dMO_sortOf_50 (by decide) (by omega) (by omega) (fun c_50 => ?_) (fun c_50 => ?_)
        · refine lv_iload_n hx hb dMO_sortOf_57 rfl (lv_at hl 0 rfl) ?_
          refine lv_iconst (v := iI (2)) hx hb dMO_sortOf_58 rfl ?_
          refine lz_icmp_ne (tgt := 67) hx hb dMO_sortOf_59 (by decide) (by omega) (by omega) (fun c_59 => ?_) (fun c_59 => ?_)
          · refine lv_iconst (v := iI (0)) hx hb dMO_sortOf_67 rfl ?_
            refine lv_istore (lv' := [(4, .int (iI 0)), (3, .int (iI ((detF (mdg k9)) * (trK k9)))), (2, .int (iI (detF (mdg k9)))), (1, .int (iI (trK k9))), (0, .ref am)]) hx hb dMO_sortOf_68 hl (by decide) rfl (fun ls hl => ?_)
            refine lv_iload_n hx hb dMO_sortOf_70 rfl (lv_at hl 2 rfl) ?_
            refine lv_iload hx hb dMO_sortOf_71 (lv_at hl 0 rfl) ?_
            refine lz_imul hx hb dMO_sortOf_73 ?_
            exact hret 74 ls ((detF (mdg k9)) * 0) (by
                  unfold sortR
                  first
                  | rw [if_pos c_24]
                  | rw [if_neg c_24, if_pos c_33]
                  | rw [if_neg c_24, if_neg c_33, if_pos c_41]
                  | rw [if_neg c_24, if_neg c_33, if_neg c_41, if_pos c_50]
                  | rw [if_neg c_24, if_neg c_33, if_neg c_41, if_neg c_50, if_pos c_59]
                  | rw [if_neg c_24, if_neg c_33, if_neg c_41, if_neg c_50, if_neg c_59]) dMO_sortOf_74
          · refine lv_bipush (v := iI (6)) hx hb dMO_sortOf_62 (by decide) ?_
            refine lv_goto (tgt := 68) hx hb dMO_sortOf_64 (by decide) ?_
            refine lv_istore (lv' := [(4, .int (iI 6)), (3, .int (iI ((detF (mdg k9)) * (trK k9)))), (2, .int (iI (detF (mdg k9)))), (1, .int (iI (trK k9))), (0, .ref am)]) hx hb dMO_sortOf_68 hl (by decide) rfl (fun ls hl => ?_)
            refine lv_iload_n hx hb dMO_sortOf_70 rfl (lv_at hl 2 rfl) ?_
            refine lv_iload hx hb dMO_sortOf_71 (lv_at hl 0 rfl) ?_
            refine lz_imul hx hb dMO_sortOf_73 ?_
            exact hret 74 ls ((detF (mdg k9)) * 6) (by
                  unfold sortR
                  first
                  | rw [if_pos c_24]
                  | rw [if_neg c_24, if_pos c_33]
                  | rw [if_neg c_24, if_neg c_33, if_pos c_41]
                  | rw [if_neg c_24, if_neg c_33, if_neg c_41, if_pos c_50]
                  | rw [if_neg c_24, if_neg c_33, if_neg c_41, if_neg c_50, if_pos c_59]
                  | rw [if_neg c_24, if_neg c_33, if_neg c_41, if_neg c_50, if_neg c_59]) dMO_sortOf_74
        · refine lv_iconst (v := iI (4)) hx hb dMO_sortOf_53 rfl ?_
          refine lv_goto (tgt := 68) hx hb dMO_sortOf_54 (by decide) ?_
          refine lv_istore (lv' := [(4, .int (iI 4)), (3, .int (iI ((detF (mdg k9)) * (trK k9)))), (2, .int (iI (detF (mdg k9)))), (1, .int (iI (trK k9))), (0, .ref am)]) hx hb dMO_sortOf_68 hl (by decide) rfl (fun ls hl => ?_)
          refine lv_iload_n hx hb dMO_sortOf_70 rfl (lv_at hl 2 rfl) ?_
          refine lv_iload hx hb dMO_sortOf_71 (lv_at hl 0 rfl) ?_
          refine lz_imul hx hb dMO_sortOf_73 ?_
          exact hret 74 ls ((detF (mdg k9)) * 4) (by
                unfold sortR
                first
                | rw [if_pos c_24]
                | rw [if_neg c_24, if_pos c_33]
                | rw [if_neg c_24, if_neg c_33, if_pos c_41]
                | rw [if_neg c_24, if_neg c_33, if_neg c_41, if_pos c_50]
                | rw [if_neg c_24, if_neg c_33, if_neg c_41, if_neg c_50, if_pos c_59]
                | rw [if_neg c_24, if_neg c_33, if_neg c_41, if_neg c_50, if_neg c_59]) dMO_sortOf_74
      · refine lv_iconst (v := iI (3)) hx hb dMO_sortOf_44 rfl ?_
        refine lv_goto (tgt := 68) hx hb dMO_sortOf_45 (by decide) ?_
        refine lv_istore (lv' := [(4, .int (iI 3)), (3, .int (iI ((detF (mdg k9)) * (trK k9)))), (2, .int (iI (detF (mdg k9)))), (1, .int (iI (trK k9))), (0, .ref am)]) hx hb dMO_sortOf_68 hl (by decide) rfl (fun ls hl => ?_)
        refine lv_iload_n hx hb dMO_sortOf_70 rfl (lv_at hl 2 rfl) ?_
        refine lv_iload hx hb dMO_sortOf_71 (lv_at hl 0 rfl) ?_
        refine lz_imul hx hb dMO_sortOf_73 ?_
        exact hret 74 ls ((detF (mdg k9)) * 3) (by
              unfold sortR
              first
              | rw [if_pos c_24]
              | rw [if_neg c_24, if_pos c_33]
              | rw [if_neg c_24, if_neg c_33, if_pos c_41]
              | rw [if_neg c_24, if_neg c_33, if_neg c_41, if_pos c_50]
              | rw [if_neg c_24, if_neg c_33, if_neg c_41, if_neg c_50, if_pos c_59]
              | rw [if_neg c_24, if_neg c_33, if_neg c_41, if_neg c_50, if_neg c_59]) dMO_sortOf_74
    · refine lv_iconst (v := iI (2)) hx hb dMO_sortOf_36 rfl ?_
      refine lv_goto (tgt := 68) hx hb dMO_sortOf_37 (by decide) ?_
      refine lv_istore (lv' := [(4, .int (iI 2)), (3, .int (iI ((detF (mdg k9)) * (trK k9)))), (2, .int (iI (detF (mdg k9)))), (1, .int (iI (trK k9))), (0, .ref am)]) hx hb dMO_sortOf_68 hl (by decide) rfl (fun ls hl => ?_)
      refine lv_iload_n hx hb dMO_sortOf_70 rfl (lv_at hl 2 rfl) ?_
      refine lv_iload hx hb dMO_sortOf_71 (lv_at hl 0 rfl) ?_
      refine lz_imul hx hb dMO_sortOf_73 ?_
      exact hret 74 ls ((detF (mdg k9)) * 2) (by
            unfold sortR
            first
            | rw [if_pos c_24]
            | rw [if_neg c_24, if_pos c_33]
            | rw [if_neg c_24, if_neg c_33, if_pos c_41]
            | rw [if_neg c_24, if_neg c_33, if_neg c_41, if_pos c_50]
            | rw [if_neg c_24, if_neg c_33, if_neg c_41, if_neg c_50, if_pos c_59]
            | rw [if_neg c_24, if_neg c_33, if_neg c_41, if_neg c_50, if_neg c_59]) dMO_sortOf_74
  · refine lv_iconst (v := iI (1)) hx hb dMO_sortOf_27 rfl ?_
    refine lv_goto (tgt := 68) hx hb dMO_sortOf_28 (by decide) ?_
    refine lv_istore (lv' := [(4, .int (iI 1)), (3, .int (iI ((detF (mdg k9)) * (trK k9)))), (2, .int (iI (detF (mdg k9)))), (1, .int (iI (trK k9))), (0, .ref am)]) hx hb dMO_sortOf_68 hl (by decide) rfl (fun ls hl => ?_)
    refine lv_iload_n hx hb dMO_sortOf_70 rfl (lv_at hl 2 rfl) ?_
    refine lv_iload hx hb dMO_sortOf_71 (lv_at hl 0 rfl) ?_
    refine lz_imul hx hb dMO_sortOf_73 ?_
    exact hret 74 ls ((detF (mdg k9)) * 1) (by
          unfold sortR
          first
          | rw [if_pos c_24]
          | rw [if_neg c_24, if_pos c_33]
          | rw [if_neg c_24, if_neg c_33, if_pos c_41]
          | rw [if_neg c_24, if_neg c_33, if_neg c_41, if_pos c_50]
          | rw [if_neg c_24, if_neg c_33, if_neg c_41, if_neg c_50, if_pos c_59]
          | rw [if_neg c_24, if_neg c_33, if_neg c_41, if_neg c_50, if_neg c_59]) dMO_sortOf_74

def rmMO_identity : Room := { frames := 0, cells := 0, slots := 0, locals := 0 }
set_option maxHeartbeats 4000000 in
set_option maxRecDepth 100000 in
theorem mMO_identity (l : Launch) (D : va_G) (cI cJ cZ : ClassId)   : zRI l yMO_identity wMO_identity rmMO_identity D vwCl (zM cI cJ cZ) [] [] (fun z => z = u0) := by
  refine zRI.of (cc := cMO_identity) (maxL := 2) (rt := .int) (by decide) rfl (Nat.le_of_ble_eq_true rfl) (fun _ _ => rfl) ?_
  intro p e s m args below meth c ls Q hx hb hml hown hts hK hP hX hl hret
  have hS0 : va_S (fun _ => False) s.heap s.heap [] := va_S.rf
  have hl : lv_has ls 2 [] := hl
  refine lv_iconst (v := iI (0)) hx hb dMO_identity_0 rfl ?_
  refine lv_istore_n (lv' := [(0, .int (iI 0))]) hx hb dMO_identity_1 rfl hl (by decide) rfl (fun ls hl => ?_)
  refine lv_iconst (v := iI (0)) hx hb dMO_identity_2 rfl ?_
  refine lv_istore_n (lv' := [(1, .int (iI 0)), (0, .int (iI 0))]) hx hb dMO_identity_3 rfl hl (by decide) rfl (fun ls hl => ?_)
  have lp4 : ∀ (n9 : Nat) (i : Nat), (i ≤ 9) → (9 - i) < n9 → ∀ (ls : Array Slot), lv_has ls 2 [(0, .int (iI (idN i))), (1, .int (iI (i : Int)))] → W p l e (headSpec wMO_identity rmMO_identity).room s m args below meth c s.heap [] 0 0 Q (F0 m 4 ls []) := by
    intro n9
    induction n9 with
    | zero => intro i hi hm; exact absurd hm (Nat.not_lt_zero _)
    | succ n9 ih4 =>
      intro i hi hm4 ls hl
      refine lv_iload_n hx hb dMO_identity_4 rfl (lv_at hl 1 rfl) ?_
      refine lv_bipush (v := iI (9)) hx hb dMO_identity_5 (by decide) ?_
      refine lz_icmp_ge (tgt := 32) hx hb dMO_identity_7 (by decide) (by omega) (by omega) (fun c_7 => ?_) (fun c_7 => ?_)
      · refine lv_sipush (v := iI (13824)) hx hb dMO_identity_32 (by decide) ?_
        refine lv_iload_n hx hb dMO_identity_35 rfl (lv_at hl 0 rfl) ?_
        refine lz_imul hx hb dMO_identity_36 ?_
        exact hret 37 ls (13824 * (idN i)) (by rw [show i = 9 by omega]; exact idN_9) dMO_identity_37
      · refine lv_iconst (v := iI (3)) hx hb dMO_identity_10 rfl ?_
        refine lv_iload_n hx hb dMO_identity_11 rfl (lv_at hl 0 rfl) ?_
        refine lz_imul hx hb dMO_identity_12 ?_
        refine lv_iload_n hx hb dMO_identity_13 rfl (lv_at hl 1 rfl) ?_
        refine lv_iconst (v := iI (4)) hx hb dMO_identity_14 rfl ?_
        refine lz_irem hx hb dMO_identity_15 (by omega) (by omega) ?_
        refine lz_if_ne (tgt := 23) hx hb dMO_identity_16 (by decide) (by omega) (fun c_16 => ?_) (fun c_16 => ?_)
        · refine lv_iconst (v := iI (1)) hx hb dMO_identity_23 rfl ?_
          refine lz_iadd hx hb dMO_identity_24 ?_
          refine lv_istore_n (lv' := [(0, .int (iI ((3 * (idN i)) + 1))), (1, .int (iI (i : Int)))]) hx hb dMO_identity_25 rfl hl (by decide) rfl (fun ls hl => ?_)
          refine lz_iinc (lv' := [(1, .int (iI ((i : Int) + 1))), (0, .int (iI ((3 * (idN i)) + 1)))]) hx hb dMO_identity_26 hl (k := 1) rfl (by decide) rfl (fun ls hl => ?_)
          refine lv_goto (tgt := 4) hx hb dMO_identity_29 (by decide) ?_
          rw [show (3 * (idN i)) + 1 = idN (i + 1) from by show _ = 3 * idN i + _; rw [if_neg (by omega)]] at hl
          exact ih4 (i + 1) (by omega) (by omega) _ (lv_sub hl [1, 0] rfl)
        · refine lv_iconst (v := iI (2)) hx hb dMO_identity_19 rfl ?_
          refine lv_goto (tgt := 24) hx hb dMO_identity_20 (by decide) ?_
          refine lz_iadd hx hb dMO_identity_24 ?_
          refine lv_istore_n (lv' := [(0, .int (iI ((3 * (idN i)) + 2))), (1, .int (iI (i : Int)))]) hx hb dMO_identity_25 rfl hl (by decide) rfl (fun ls hl => ?_)
          refine lz_iinc (lv' := [(1, .int (iI ((i : Int) + 1))), (0, .int (iI ((3 * (idN i)) + 2)))]) hx hb dMO_identity_26 hl (k := 1) rfl (by decide) rfl (fun ls hl => ?_)
          refine lv_goto (tgt := 4) hx hb dMO_identity_29 (by decide) ?_
          rw [show (3 * (idN i)) + 2 = idN (i + 1) from by show _ = 3 * idN i + _; rw [if_pos (by omega)]] at hl
          exact ih4 (i + 1) (by omega) (by omega) _ (lv_sub hl [1, 0] rfl)
  exact lp4 _ 0 (by omega) (Nat.lt_succ_self _) _ (lv_sub hl [1, 0] rfl)

def rmMO_isGroup : Room := { frames := 0, cells := 0, slots := 0, locals := 0 }
set_option maxHeartbeats 4000000 in
set_option maxRecDepth 100000 in
theorem mMO_isGroup (l : Launch) (D : va_G) (cI cJ cZ : ClassId) (q : MoA) (cn gn ln : Int) (g : Int) (hg : -2147483648 ≤ g ∧ g < 2147483648) (hn : 0 ≤ gn ∧ gn ≤ 40) : zRI l yMO_isGroup wMO_isGroup rmMO_isGroup D vwCl (zM cI cJ cZ) [.ref q.mo, .int (iI g)] [(moC q cn gn ln)] (fun z => (z = 1 ∧ 0 ≤ g ∧ g < gn) ∨ (z = 0 ∧ ¬ (0 ≤ g ∧ g < gn))) := by
  refine zRI.of (cc := cMO_isGroup) (maxL := 2) (rt := .boolean) (by decide) rfl (Nat.le_of_ble_eq_true rfl) (fun z h => by rcases h with ⟨rfl, _⟩ | ⟨rfl, _⟩ <;> decide) ?_
  intro p e s m args below meth c ls Q hx hb hml hown hts hK hP hX hl hret
  have hS0 : va_S (fun _ => False) s.heap s.heap [] := va_S.rf
  have hl : lv_has ls 2 [(0, .ref q.mo), (1, .int (iI g))] := hl
  refine lv_iload_n hx hb dMO_isGroup_0 rfl (lv_at hl 1 rfl) ?_
  refine lz_if_lt (tgt := 16) hx hb dMO_isGroup_1 (by decide) (by omega) (fun c_1 => ?_) (fun c_1 => ?_)
  · refine lv_iconst (v := iI (0)) hx hb dMO_isGroup_16 rfl ?_
    exact hret 17 ls 0 (by first | exact Or.inl ⟨rfl, by omega, by omega⟩ | exact Or.inr ⟨rfl, by omega⟩) dMO_isGroup_17
  · refine lv_iload_n hx hb dMO_isGroup_4 rfl (lv_at hl 1 rfl) ?_
    refine lv_aload_n hx hb dMO_isGroup_5 rfl (lv_at hl 0 rfl) ?_
    refine va_get (D := D) (ci := 7) (v := .int (iI gn)) (C := nMO) (T := fMO) (N := 24) hx hb hts iwMO hown hK hP 0 rfl rfl 8 (by decide) (hts _ (List.mem_cons_of_mem _ lkMO_88)) (fun _ h9 => h9) rfl dMO_isGroup_6 ?_
    refine lz_icmp_ge (tgt := 16) hx hb dMO_isGroup_9 (by decide) (by omega) (by omega) (fun c_9 => ?_) (fun c_9 => ?_)
    · refine lv_iconst (v := iI (0)) hx hb dMO_isGroup_16 rfl ?_
      exact hret 17 ls 0 (by first | exact Or.inl ⟨rfl, by omega, by omega⟩ | exact Or.inr ⟨rfl, by omega⟩) dMO_isGroup_17
    · refine lv_iconst (v := iI (1)) hx hb dMO_isGroup_12 rfl ?_
      refine lv_goto (tgt := 17) hx hb dMO_isGroup_13 (by decide) ?_
      exact hret 17 ls 1 (by first | exact Or.inl ⟨rfl, by omega, by omega⟩ | exact Or.inr ⟨rfl, by omega⟩) dMO_isGroup_17

def rmMO_isListed : Room := { frames := 0, cells := 0, slots := 0, locals := 0 }
set_option maxHeartbeats 4000000 in
set_option maxRecDepth 100000 in
theorem mMO_isListed (l : Launch) (D : va_G) (cI cJ cZ : ClassId) (q : MoA) (cn gn ln : Int) (op : Int) (fl : Nat → Int) (L : List Int) (hl0 : ln = (L.length : Int)) (hL : L.length ≤ 192) (he : emb fl 0 L) (hk : ∀ x ∈ L, 0 ≤ x ∧ x < 2147483648) (ho : -2147483648 ≤ op ∧ op < 2147483648) : zRI l yMO_isListed wMO_isListed rmMO_isListed D vwCl (zM cI cJ cZ) [.ref q.mo, .int (iI op)] [(moC q cn gn ln), (q.xl, .inl (cI, 200, .inl (zf fl)))] (fun z => (z = 1 ∧ op ∈ L) ∨ (z = 0 ∧ op ∉ L)) := by
  refine zRI.of (cc := cMO_isListed) (maxL := 3) (rt := .boolean) (by decide) rfl (Nat.le_of_ble_eq_true rfl) (fun z h => by rcases h with ⟨rfl, _⟩ | ⟨rfl, _⟩ <;> decide) ?_
  intro p e s m args below meth c ls Q hx hb hml hown hts hK hP hX hl hret
  have hS0 : va_S (fun _ => False) s.heap s.heap [] := va_S.rf
  have hl : lv_has ls 3 [(0, .ref q.mo), (1, .int (iI op))] := hl
  subst hl0
  refine lv_iconst (v := iI (0)) hx hb dMO_isListed_0 rfl ?_
  refine lv_istore_n (lv' := [(2, .int (iI 0)), (0, .ref q.mo), (1, .int (iI op))]) hx hb dMO_isListed_1 rfl hl (by decide) rfl (fun ls hl => ?_)
  have lp2 : ∀ (n9 : Nat) (i : Nat), (i ≤ L.length) → (∀ j, j < i → L.getD j (-1) ≠ op) → (L.length - i) < n9 → ∀ (ls : Array Slot), lv_has ls 3 [(0, .ref q.mo), (1, .int (iI op)), (2, .int (iI (i : Int)))] → W p l e (headSpec wMO_isListed rmMO_isListed).room s m args below meth c s.heap [] 0 0 Q (F0 m 2 ls []) := by
    intro n9
    induction n9 with
    | zero => intro i hi h1 hm; exact absurd hm (Nat.not_lt_zero _)
    | succ n9 ih2 =>
      intro i hi h1 hm2 ls hl
      refine lv_iload_n hx hb dMO_isListed_2 rfl (lv_at hl 2 rfl) ?_
      refine lv_aload_n hx hb dMO_isListed_3 rfl (lv_at hl 0 rfl) ?_
      refine va_get (D := D) (ci := 7) (v := .int (iI (L.length : Int))) (C := nMO) (T := fMO) (N := 24) hx hb hts iwMO hown hK hP 0 rfl rfl 10 (by decide) (hts _ (List.mem_cons_of_mem _ lkMO_95)) (fun _ h9 => h9) rfl dMO_isListed_4 ?_
      refine lz_icmp_ge (tgt := 28) hx hb dMO_isListed_7 (by decide) (by omega) (by omega) (fun c_7 => ?_) (fun c_7 => ?_)
      · refine lv_iconst (v := iI (0)) hx hb dMO_isListed_28 rfl ?_
        exact hret 29 ls 0 (Or.inr ⟨rfl, fun hm => by obtain ⟨j, hj, e9⟩ := mem_getD hm; exact h1 j (by omega) e9⟩) dMO_isListed_29
      · refine lv_aload_n hx hb dMO_isListed_10 rfl (lv_at hl 0 rfl) ?_
        refine va_get (D := D) (ci := 7) (v := .ref q.xl) (C := nMO) (T := fMO) (N := 24) hx hb hts iwMO hown hK hP 0 rfl rfl 9 (by decide) (hts _ (List.mem_cons_of_mem _ lkMO_31)) (fun _ h9 => h9) rfl dMO_isListed_11 ?_
        refine lv_iload_n hx hb dMO_isListed_14 rfl (lv_at hl 2 rfl) ?_
        refine lz_ialk hx hb hK hP 1 0 rfl rfl (z := (i : Int)) i rfl (by omega) dMO_isListed_15 ?_
        refine lz_as (x := fl i) (y := L.getD i (-1)) (by have := he i (by omega); rw [Nat.zero_add] at this; exact this) ?_
        refine lv_iload_n hx hb dMO_isListed_16 rfl (lv_at hl 1 rfl) ?_
        refine lz_icmp_ne (tgt := 22) hx hb dMO_isListed_17 (by decide) (by have := hk _ (getD_mem (ks := L) (j := i) (by omega)); omega) (by omega) (fun c_17 => ?_) (fun c_17 => ?_)
        · refine lz_iinc (lv' := [(2, .int (iI ((i : Int) + 1))), (0, .ref q.mo), (1, .int (iI op))]) hx hb dMO_isListed_22 hl (k := 2) rfl (by decide) rfl (fun ls hl => ?_)
          refine lv_goto (tgt := 2) hx hb dMO_isListed_25 (by decide) ?_
          exact ih2 (i + 1) (by omega) (fun j hj => by
              rcases Nat.lt_or_ge j i with g9 | g9
              · exact h1 j g9
              · obtain rfl : j = i := by omega
                exact c_17) (by omega) _ (lv_sub hl [1, 2, 0] rfl)
        · refine lv_iconst (v := iI (1)) hx hb dMO_isListed_20 rfl ?_
          exact hret 21 ls 1 (Or.inl ⟨rfl, by rw [← c_17]; exact getD_mem (by omega)⟩) dMO_isListed_21
  exact lp2 _ 0 (by omega) (fun j hj => absurd hj (Nat.not_lt_zero _)) (Nat.lt_succ_self _) _ (lv_sub hl [1, 2, 0] rfl)
