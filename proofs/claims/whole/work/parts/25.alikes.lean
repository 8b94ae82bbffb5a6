/-! AlikeSets: written by wip/whole/genas.py -/
def rmAS_count : Room := { frames := 0, cells := 0, slots := 0, locals := 0 }
set_option maxHeartbeats 4000000 in
set_option maxRecDepth 100000 in
theorem mAS_count (l : Launch) (D : va_G) (cI cG : ClassId) (t sa za : Nat) (ct : Int)  : zRI l yAS_count wAS_count rmAS_count D vwCl (zT cI cG) [.ref t] [(t, .inr (0, [.ref sa, .ref za, .int (iI ct)]))] (fun z => z = ct) := by
  refine zRI.of (cc := cAS_count) (maxL := 1) (rt := .int) (by decide) rfl (Nat.le_of_ble_eq_true rfl) (fun _ _ => rfl) ?_
  intro p e s m args below meth c ls Q hx hb hml hown hts hK hP hX hl hret
  have hS0 : va_S (fun _ => False) s.heap s.heap [] := va_S.rf
  have hl : lv_has ls 1 [(0, .ref t)] := hl
  refine lv_aload_n hx hb dAS_count_0 rfl (lv_at hl 0 rfl) ?_
  refine va_get (D := D) (ci := 0) (v := .int (iI ct)) (C := nAS) (T := fAS) (N := 3) hx hb hts iwAS hown hK hP 0 rfl rfl 2 (by decide) (hts _ (List.mem_cons_of_mem _ lkAS_24)) (fun _ h9 => h9) rfl dAS_count_1 ?_
  exact hret 4 ls ct rfl dAS_count_4

def rmAS_sizeOf : Room := { frames := 0, cells := 0, slots := 0, locals := 0 }
set_option maxHeartbeats 4000000 in
set_option maxRecDepth 100000 in
theorem mAS_sizeOf (l : Launch) (D : va_G) (cI cG : ClassId) (t sa za n : Nat) (so sz : Nat → Int) (ct k : Int) (hr : inN n so) (hn : n ≤ 192) (hk : 0 ≤ k ∧ k < (n : Int)) : zRI l yAS_sizeOf wAS_sizeOf rmAS_sizeOf D vwCl (zT cI cG) [.ref t, .int (iI k)] [(t, .inr (0, [.ref sa, .ref za, .int (iI ct)])), (sa, .inl (cI, n, .inl (zf so))), (za, .inl (cI, n, .inl (zf sz)))] (fun z => z = sz (so k.toNat).toNat) := by
  refine zRI.of (cc := cAS_sizeOf) (maxL := 3) (rt := .int) (by decide) rfl (Nat.le_of_ble_eq_true rfl) (fun _ _ => rfl) ?_
  intro p e s m args below meth c ls Q hx hb hml hown hts hK hP hX hl hret
  have hS0 : va_S (fun _ => False) s.heap s.heap [] := va_S.rf
  have hl : lv_has ls 3 [(0, .ref t), (1, .int (iI k))] := hl
  have hrk := hr k.toNat (by omega)
  refine lv_iload_n hx hb dAS_sizeOf_0 rfl (lv_at hl 1 rfl) ?_
  refine lz_if_lt (tgt := 22) hx hb dAS_sizeOf_1 (by decide) (by omega) (fun c_1 => ?_) (fun c_1 => ?_)
  · exact absurd c_1 (by omega)
  · refine lv_iload_n hx hb dAS_sizeOf_4 rfl (lv_at hl 1 rfl) ?_
    refine lv_aload_n hx hb dAS_sizeOf_5 rfl (lv_at hl 0 rfl) ?_
    refine va_get (D := D) (ci := 0) (v := .ref sa) (C := nAS) (T := fAS) (N := 3) hx hb hts iwAS hown hK hP 0 rfl rfl 0 (by decide) (hts _ (List.mem_cons_of_mem _ lkAS_15)) (fun _ h9 => h9) rfl dAS_sizeOf_6 ?_
    refine lz_alen hx hb hK hP 1 0 rfl rfl dAS_sizeOf_9 ?_
    refine lz_icmp_ge (tgt := 22) hx hb dAS_sizeOf_10 (by decide) (by omega) (by omega) (fun c_10 => ?_) (fun c_10 => ?_)
    · exact absurd c_10 (by omega)
    · refine lv_aload_n hx hb dAS_sizeOf_13 rfl (lv_at hl 0 rfl) ?_
      refine va_get (D := D) (ci := 0) (v := .ref sa) (C := nAS) (T := fAS) (N := 3) hx hb hts iwAS hown hK hP 0 rfl rfl 0 (by decide) (hts _ (List.mem_cons_of_mem _ lkAS_15)) (fun _ h9 => h9) rfl dAS_sizeOf_14 ?_
      refine lv_iload_n hx hb dAS_sizeOf_17 rfl (lv_at hl 1 rfl) ?_
      refine lz_iald hx hb hK hP 1 0 rfl rfl (z := k) (by omega) dAS_sizeOf_18 ?_
      refine lv_goto (tgt := 23) hx hb dAS_sizeOf_19 (by decide) ?_
      refine lv_istore_n (lv' := [(2, .int (iI (so (k).toNat))), (0, .ref t), (1, .int (iI k))]) hx hb dAS_sizeOf_23 rfl hl (by decide) rfl (fun ls hl => ?_)
      refine lv_iload_n hx hb dAS_sizeOf_24 rfl (lv_at hl 0 rfl) ?_
      refine lz_if_lt (tgt := 46) hx hb dAS_sizeOf_25 (by decide) (by omega) (fun c_25 => ?_) (fun c_25 => ?_)
      · exact absurd c_25 (by omega)
      · refine lv_iload_n hx hb dAS_sizeOf_28 rfl (lv_at hl 0 rfl) ?_
        refine lv_aload_n hx hb dAS_sizeOf_29 rfl (lv_at hl 1 rfl) ?_
        refine va_get (D := D) (ci := 0) (v := .ref za) (C := nAS) (T := fAS) (N := 3) hx hb hts iwAS hown hK hP 0 rfl rfl 1 (by decide) (hts _ (List.mem_cons_of_mem _ lkAS_21)) (fun _ h9 => h9) rfl dAS_sizeOf_30 ?_
        refine lz_alen hx hb hK hP 2 0 rfl rfl dAS_sizeOf_33 ?_
        refine lz_icmp_ge (tgt := 46) hx hb dAS_sizeOf_34 (by decide) (by omega) (by omega) (fun c_34 => ?_) (fun c_34 => ?_)
        · exact absurd c_34 (by omega)
        · refine lv_aload_n hx hb dAS_sizeOf_37 rfl (lv_at hl 1 rfl) ?_
          refine va_get (D := D) (ci := 0) (v := .ref za) (C := nAS) (T := fAS) (N := 3) hx hb hts iwAS hown hK hP 0 rfl rfl 1 (by decide) (hts _ (List.mem_cons_of_mem _ lkAS_21)) (fun _ h9 => h9) rfl dAS_sizeOf_38 ?_
          refine lv_iload_n hx hb dAS_sizeOf_41 rfl (lv_at hl 0 rfl) ?_
          refine lz_iald hx hb hK hP 2 0 rfl rfl (z := so (k).toNat) (by omega) dAS_sizeOf_42 ?_
          refine lv_goto (tgt := 47) hx hb dAS_sizeOf_43 (by decide) ?_
          exact hret 47 ls (sz (so (k).toNat).toNat) rfl dAS_sizeOf_47

def rmAS_join : Room := { frames := 0, cells := 0, slots := 0, locals := 0 }
set_option maxHeartbeats 4000000 in
set_option maxRecDepth 100000 in
theorem mAS_join (l : Launch) (D : va_G) (cI cG : ClassId) (t sa za n : Nat) (so : Nat → Int) (ct : Int) (a b : Nat) (hr : inN n so) (hn : n ≤ 192) (ha : a < n) (hb9 : b < n) : zV l yAS_join wAS_join rmAS_join D vwCl (zT cI cG) [.ref t, .int (iI (a : Int)), .int (iI (b : Int))] [(t, .inr (0, [.ref sa, .ref za, .int (iI ct)])), (sa, .inl (cI, n, .inl (zf so)))] (S := ((Nat → Int) × Int)) (fun u => (so a = so b ∧ u.1 = so ∧ u.2 = ct) ∨ (so a ≠ so b ∧ (∀ i, i < n → u.1 i = jn so a b i) ∧ u.2 = ct - 1)) (fun u => [(t, .inr (0, [.ref sa, .ref za, .int (iI u.2)])), (sa, .inl (cI, n, .inl (zf u.1)))]) := by
  refine zV.of (cc := cAS_join) (maxL := 6) (by decide) rfl (Nat.le_of_ble_eq_true rfl) ?_
  intro p e s m args below meth c A ls Q hx hb hml hown hts hnm hK hD hA hAe hX hl hret H locs hP hS
  have hl : lv_has ls 6 [(0, .ref t), (1, .int (iI (a : Int))), (2, .int (iI (b : Int)))] := hl
  have hra := hr a ha
  have hrb := hr b hb9
  refine lv_iload_n hx hb dAS_join_0 rfl (lv_at hl 1 rfl) ?_
  refine lz_if_lt (tgt := 41) hx hb dAS_join_1 (by decide) (by omega) (fun c_1 => ?_) (fun c_1 => ?_)
  · exact absurd c_1 (by omega)
  · refine lv_iload_n hx hb dAS_join_4 rfl (lv_at hl 1 rfl) ?_
    refine lv_aload_n hx hb dAS_join_5 rfl (lv_at hl 0 rfl) ?_
    refine va_get (D := D) (ci := 0) (v := .ref sa) (C := nAS) (T := fAS) (N := 3) hx hb hts iwAS hown hK hP 0 rfl rfl 0 (by decide) (hts _ (List.mem_cons_of_mem _ lkAS_15)) (fun _ h9 => h9) rfl dAS_join_6 ?_
    refine lz_alen hx hb hK hP 1 0 rfl rfl dAS_join_9 ?_
    refine lz_icmp_ge (tgt := 41) hx hb dAS_join_10 (by decide) (by omega) (by omega) (fun c_10 => ?_) (fun c_10 => ?_)
    · exact absurd c_10 (by omega)
    · refine lv_iload_n hx hb dAS_join_13 rfl (lv_at hl 2 rfl) ?_
      refine lz_if_lt (tgt := 41) hx hb dAS_join_14 (by decide) (by omega) (fun c_14 => ?_) (fun c_14 => ?_)
      · exact absurd c_14 (by omega)
      · refine lv_iload_n hx hb dAS_join_17 rfl (lv_at hl 2 rfl) ?_
        refine lv_aload_n hx hb dAS_join_18 rfl (lv_at hl 0 rfl) ?_
        refine va_get (D := D) (ci := 0) (v := .ref sa) (C := nAS) (T := fAS) (N := 3) hx hb hts iwAS hown hK hP 0 rfl rfl 0 (by decide) (hts _ (List.mem_cons_of_mem _ lkAS_15)) (fun _ h9 => h9) rfl dAS_join_19 ?_
        refine lz_alen hx hb hK hP 1 0 rfl rfl dAS_join_22 ?_
        refine lz_icmp_ge (tgt := 41) hx hb dAS_join_23 (by decide) (by omega) (by omega) (fun c_23 => ?_) (fun c_23 => ?_)
        · exact absurd c_23 (by omega)
        · refine lv_aload_n hx hb dAS_join_26 rfl (lv_at hl 0 rfl) ?_
          refine va_get (D := D) (ci := 0) (v := .ref sa) (C := nAS) (T := fAS) (N := 3) hx hb hts iwAS hown hK hP 0 rfl rfl 0 (by decide) (hts _ (List.mem_cons_of_mem _ lkAS_15)) (fun _ h9 => h9) rfl dAS_join_27 ?_
          refine lv_iload_n hx hb dAS_join_30 rfl (lv_at hl 1 rfl) ?_
          refine lz_ialk hx hb hK hP 1 0 rfl rfl (z := (a : Int)) a rfl (by omega) dAS_join_31 ?_
          refine lv_aload_n hx hb dAS_join_32 rfl (lv_at hl 0 rfl) ?_
          refine va_get (D := D) (ci := 0) (v := .ref sa) (C := nAS) (T := fAS) (N := 3) hx hb hts iwAS hown hK hP 0 rfl rfl 0 (by decide) (hts _ (List.mem_cons_of_mem _ lkAS_15)) (fun _ h9 => h9) rfl dAS_join_33 ?_
          refine lv_iload_n hx hb dAS_join_36 rfl (lv_at hl 2 rfl) ?_
          refine lz_ialk hx hb hK hP 1 0 rfl rfl (z := (b : Int)) b rfl (by omega) dAS_join_37 ?_
          refine lz_icmp_ne (tgt := 42) hx hb dAS_join_38 (by decide) (by omega) (by omega) (fun c_38 => ?_) (fun c_38 => ?_)
          · refine lv_aload_n hx hb dAS_join_42 rfl (lv_at hl 0 rfl) ?_
            refine va_get (D := D) (ci := 0) (v := .ref sa) (C := nAS) (T := fAS) (N := 3) hx hb hts iwAS hown hK hP 0 rfl rfl 0 (by decide) (hts _ (List.mem_cons_of_mem _ lkAS_15)) (fun _ h9 => h9) rfl dAS_join_43 ?_
            refine lv_iload_n hx hb dAS_join_46 rfl (lv_at hl 1 rfl) ?_
            refine lz_ialk hx hb hK hP 1 0 rfl rfl (z := (a : Int)) a rfl (by omega) dAS_join_47 ?_
            refine lv_istore_n (lv' := [(3, .int (iI (so a))), (0, .ref t), (1, .int (iI (a : Int))), (2, .int (iI (b : Int)))]) hx hb dAS_join_48 rfl hl (by decide) rfl (fun ls hl => ?_)
            refine lv_aload_n hx hb dAS_join_49 rfl (lv_at hl 1 rfl) ?_
            refine va_get (D := D) (ci := 0) (v := .ref sa) (C := nAS) (T := fAS) (N := 3) hx hb hts iwAS hown hK hP 0 rfl rfl 0 (by decide) (hts _ (List.mem_cons_of_mem _ lkAS_15)) (fun _ h9 => h9) rfl dAS_join_50 ?_
            refine lv_iload_n hx hb dAS_join_53 rfl (lv_at hl 3 rfl) ?_
            refine lz_ialk hx hb hK hP 1 0 rfl rfl (z := (b : Int)) b rfl (by omega) dAS_join_54 ?_
            refine lv_istore (lv' := [(4, .int (iI (so b))), (3, .int (iI (so a))), (0, .ref t), (1, .int (iI (a : Int))), (2, .int (iI (b : Int)))]) hx hb dAS_join_55 hl (by decide) rfl (fun ls hl => ?_)
            refine lv_iconst (v := iI (0)) hx hb dAS_join_57 rfl ?_
            refine lv_istore (lv' := [(5, .int (iI 0)), (4, .int (iI (so b))), (3, .int (iI (so a))), (0, .ref t), (1, .int (iI (a : Int))), (2, .int (iI (b : Int)))]) hx hb dAS_join_58 hl (by decide) rfl (fun ls hl => ?_)
            have lp60 : ∀ (n9 : Nat) (i : Nat) (s1 : Nat → Int), (i ≤ n) → (∀ j, j < i → s1 j = jn so a b j) → (∀ j, i ≤ j → j < n → s1 j = so j) → (n - i) < n9 → ∀ (H : Heap) (locs : List Loc), va_P D vwCl [(t, .inr (0, [.ref sa, .ref za, .int (iI ct)])), (sa, .inl (cI, n, .inl (zf s1)))] H → va_D A [(t, .inr (0, [.ref sa, .ref za, .int (iI ct)])), (sa, .inl (cI, n, .inl (zf s1)))] → va_S A s.heap H locs → ∀ (ls : Array Slot), lv_has ls 6 [(0, .ref t), (3, .int (iI (so a))), (4, .int (iI (so b))), (5, .int (iI (i : Int)))] → W p l e (headSpec wAS_join rmAS_join).room s m args below meth c H locs 0 0 Q (F0 m 60 ls []) := by
              intro n9
              induction n9 with
              | zero => intro i s1 hi hI hI2 hm; exact absurd hm (Nat.not_lt_zero _)
              | succ n9 ih60 =>
                intro i s1 hi hI hI2 hm60 H locs hP hD hS ls hl
                refine lv_iload hx hb dAS_join_60 (lv_at hl 3 rfl) ?_
                refine lv_aload_n hx hb dAS_join_62 rfl (lv_at hl 0 rfl) ?_
                refine va_get (D := D) (ci := 0) (v := .ref sa) (C := nAS) (T := fAS) (N := 3) hx hb hts iwAS hown hK hP 0 rfl rfl 0 (by decide) (hts _ (List.mem_cons_of_mem _ lkAS_15)) (fun _ h9 => h9) rfl dAS_join_63 ?_
                refine lz_alen hx hb hK hP 1 0 rfl rfl dAS_join_66 ?_
                refine lz_icmp_ge (tgt := 96) hx hb dAS_join_67 (by decide) (by omega) (by omega) (fun c_67 => ?_) (fun c_67 => ?_)
                · refine lv_aload_n hx hb dAS_join_96 rfl (lv_at hl 0 rfl) ?_
                  refine lv_dup hx hb dAS_join_97 rfl ?_
                  refine va_get (D := D) (ci := 0) (v := .int (iI ct)) (C := nAS) (T := fAS) (N := 3) hx hb hts iwAS hown hK hP 0 rfl rfl 2 (by decide) (hts _ (List.mem_cons_of_mem _ lkAS_24)) (fun _ h9 => h9) rfl dAS_join_98 ?_
                  refine lv_iconst (v := iI (1)) hx hb dAS_join_101 rfl ?_
                  refine lz_isub hx hb dAS_join_102 ?_
                  refine va_put (D := D) (ci := 0) (v := .int (iI (ct - 1))) (ty := .int) (C := nAS) (T := fAS) (N := 3) hx hb hts iwAS tAS tkAS nmAS hown hK hP hD hS 0 rfl rfl 2 (by decide) (hts _ (List.mem_cons_of_mem _ lkAS_24)) (fun _ h9 => h9) rfl (by decide +kernel) rfl rfl (Nat.le_of_ble_eq_true rfl) dAS_join_103 (fun H locs hP hD hS => ?_)
                  have hP : va_P D vwCl [(t, .inr (0, [.ref sa, .ref za, .int (iI (ct - 1))])), (sa, .inl (cI, n, .inl (zf s1)))] H := hP
                  have hD : va_D A [(t, .inr (0, [.ref sa, .ref za, .int (iI (ct - 1))])), (sa, .inl (cI, n, .inl (zf s1)))] := hD
                  exact hret H locs 0 0 106 ls (s1, ct - 1) (Or.inr ⟨c_38, fun j hj => hI j (by omega), rfl⟩) (hP.sub [0, 1] rfl) (hD.sub [0, 1] (by decide) rfl) hS (Nat.zero_le _) (Nat.zero_le _) dAS_join_106
                · refine lv_aload_n hx hb dAS_join_70 rfl (lv_at hl 0 rfl) ?_
                  refine va_get (D := D) (ci := 0) (v := .ref sa) (C := nAS) (T := fAS) (N := 3) hx hb hts iwAS hown hK hP 0 rfl rfl 0 (by decide) (hts _ (List.mem_cons_of_mem _ lkAS_15)) (fun _ h9 => h9) rfl dAS_join_71 ?_
                  refine lv_iload hx hb dAS_join_74 (lv_at hl 3 rfl) ?_
                  refine lz_ialk hx hb hK hP 1 0 rfl rfl (z := (i : Int)) i rfl (by omega) dAS_join_76 ?_
                  refine lv_iload hx hb dAS_join_77 (lv_at hl 2 rfl) ?_
                  refine lz_icmp_ne (tgt := 90) hx hb dAS_join_79 (by decide) (by rw [hI2 i (Nat.le_refl _) (by omega)]; have := hr i (by omega); omega) (by omega) (fun c_79 => ?_) (fun c_79 => ?_)
                  · refine lz_iinc (lv' := [(5, .int (iI ((i : Int) + 1))), (0, .ref t), (3, .int (iI (so a))), (4, .int (iI (so b)))]) hx hb dAS_join_90 hl (k := 3) rfl (by decide) rfl (fun ls hl => ?_)
                    refine lv_goto (tgt := 60) hx hb dAS_join_93 (by decide) ?_
                    exact ih60 (i + 1) s1 (by omega) (fun j hj => by
                        rcases Nat.lt_or_ge j i with q | q
                        · exact hI j q
                        · obtain rfl : j = i := by omega
                          have c78 := c_79
                          rw [hI2 j (Nat.le_refl _) (by omega)] at c78
                          rw [hI2 j (Nat.le_refl _) (by omega)]; unfold jn; rw [if_neg c78]) (fun j h1 h2 => hI2 j (by omega) h2) (by omega) _ _ (hP.sub [0, 1] rfl) (hD.sub [0, 1] (by decide) rfl) hS _ (lv_sub hl [1, 2, 3, 0] rfl)
                  · refine lv_aload_n hx hb dAS_join_82 rfl (lv_at hl 0 rfl) ?_
                    refine va_get (D := D) (ci := 0) (v := .ref sa) (C := nAS) (T := fAS) (N := 3) hx hb hts iwAS hown hK hP 0 rfl rfl 0 (by decide) (hts _ (List.mem_cons_of_mem _ lkAS_15)) (fun _ h9 => h9) rfl dAS_join_83 ?_
                    refine lv_iload hx hb dAS_join_86 (lv_at hl 3 rfl) ?_
                    refine lv_iload_n hx hb dAS_join_88 rfl (lv_at hl 1 rfl) ?_
                    refine lz_iask hx hb hK hP hD hS 1 0 rfl rfl (z := (i : Int)) (v := so a) i rfl (by omega) dAS_join_89 (fun H locs hP hD hS => ?_)
                    have hP : va_P D vwCl [(t, .inr (0, [.ref sa, .ref za, .int (iI ct)])), (sa, .inl (cI, n, .inl (zf (zu s1 i (so a)))))] H := hP
                    have hD : va_D A [(t, .inr (0, [.ref sa, .ref za, .int (iI ct)])), (sa, .inl (cI, n, .inl (zf (zu s1 i (so a)))))] := hD
                    refine lz_iinc (lv' := [(5, .int (iI ((i : Int) + 1))), (0, .ref t), (3, .int (iI (so a))), (4, .int (iI (so b)))]) hx hb dAS_join_90 hl (k := 3) rfl (by decide) rfl (fun ls hl => ?_)
                    refine lv_goto (tgt := 60) hx hb dAS_join_93 (by decide) ?_
                    exact ih60 (i + 1) (zu s1 i (so a)) (by omega) (fun j hj => by
                        rcases Nat.lt_or_ge j i with q | q
                        · rw [zu_n _ _ (by omega)]; exact hI j q
                        · obtain rfl : j = i := by omega
                          have c78 := c_79
                          rw [hI2 j (Nat.le_refl _) (by omega)] at c78
                          rw [zu_s]; unfold jn; rw [if_pos c78]) (fun j h1 h2 => by rw [zu_n _ _ (by omega)]; exact hI2 j (by omega) h2) (by omega) _ _ (hP.sub [0, 1] rfl) (hD.sub [0, 1] (by decide) rfl) hS _ (lv_sub hl [1, 2, 3, 0] rfl)
            exact lp60 _ 0 so (Nat.zero_le _) (fun j hj => absurd hj (Nat.not_lt_zero _)) (fun j _ _ => rfl) (Nat.lt_succ_self _) _ _ (hP.sub [0, 1] rfl) (hD.sub [0, 1] (by decide) rfl) hS _ (lv_sub hl [3, 2, 1, 0] rfl)
          · exact hret H locs 0 0 41 ls (so, ct) (Or.inl ⟨c_38, rfl, rfl⟩) (hP.sub [0, 1] rfl) (hD.sub [0, 1] (by decide) rfl) hS (Nat.zero_le _) (Nat.zero_le _) dAS_join_41

def rmAS_joinBy : Room := { frames := 2, cells := 0, slots := 0, locals := 54 }
set_option maxHeartbeats 4000000 in
set_option maxRecDepth 100000 in
theorem mAS_joinBy (l : Launch) (D : va_G) (cI cG : ClassId) (t sa za : Nat) (so : Nat → Int) (ct : Int) (r a n : Nat) (f : Nat → Int) (ks : List Int) (b lf rt : Nat) (gl gr : Nat → Int) (bf : Nat) (fb : Nat → Int) (c9 : Int) (h : rowOK n f ks) (hn : ks.length ≤ 192) (hG : isG ks) (hc9 : c9 ∈ ks) (hA9 : ASt ks so ct) : zV l yAS_joinBy wAS_joinBy rmAS_joinBy D vwCl (zT cI cG) [.ref t, .int (iI c9), .ref r, .ref b, .ref bf] [(t, .inr (0, [.ref sa, .ref za, .int (iI ct)])), (sa, .inl (cI, ks.length, .inl (zf so))), (r, .inr (5, [.ref a, .int (iI (ks.length : Int))])), (a, .inl (cI, n, .inl (zf f))), (b, .inr (1, [.ref lf, .ref rt])), (lf, .inl (cI, 9, .inl (zf gl))), (rt, .inl (cI, 9, .inl (zf gr))), (bf, .inl (cI, ks.length, .inl (zf fb)))] (S := ((Nat → Int) × Int × (Nat → Int) × (Nat → Int) × (Nat → Int))) (fun u => ASt ks u.1 u.2.1 ∧ (∀ i j, i < ks.length → j < ks.length → so i = so j → u.1 i = u.1 j) ∧ ∀ a b, a < ks.length → b < ks.length → timesK c9 (ks.getD a (-1)) = timesK (ks.getD b (-1)) c9 → u.1 a = u.1 b) (fun u => [(t, .inr (0, [.ref sa, .ref za, .int (iI u.2.1)])), (sa, .inl (cI, ks.length, .inl (zf u.1))), (r, .inr (5, [.ref a, .int (iI (ks.length : Int))])), (a, .inl (cI, n, .inl (zf f))), (b, .inr (1, [.ref lf, .ref rt])), (lf, .inl (cI, 9, .inl (zf u.2.2.1))), (rt, .inl (cI, 9, .inl (zf u.2.2.2.1))), (bf, .inl (cI, ks.length, .inl (zf u.2.2.2.2)))]) := by
  refine zV.of (cc := cAS_joinBy) (maxL := 7) (by decide) rfl (Nat.le_of_ble_eq_true rfl) ?_
  intro p e s m args below meth c A ls Q hx hb hml hown hts hnm hK hD hA hAe hX hl hret H locs hP hS
  have hl : lv_has ls 7 [(0, .ref t), (1, .int (iI c9)), (2, .ref r), (3, .ref b), (4, .ref bf)] := hl
  have hb1 := h.1
  have hb2 := h.2.1
  have hck := (hG.2.2.1 c9 hc9).1
  have hkk : ∀ j, j < ks.length → kOK (ks.getD j (-1)) := fun j hj => (hG.2.2.1 _ (getD_mem hj)).1
  have hnd := nodup_lt h.2.2.2.1
  refine lv_iconst (v := iI (0)) hx hb dAS_joinBy_0 rfl ?_
  refine lv_istore (lv' := [(5, .int (iI 0)), (0, .ref t), (1, .int (iI c9)), (2, .ref r), (3, .ref b), (4, .ref bf)]) hx hb dAS_joinBy_1 hl (by decide) rfl (fun ls hl => ?_)
  have lp3 : ∀ (n9 : Nat) (i : Nat) (gl1 gr1 fb1 : Nat → Int), (i ≤ ks.length) → (∀ j, j < i → ∀ k, k < ks.length → timesK (ks.getD j (-1)) c9 = ks.getD k (-1) → fb1 k = (j : Int)) → (ks.length - i) < n9 → ∀ (H : Heap) (locs : List Loc), va_P D vwCl [(t, .inr (0, [.ref sa, .ref za, .int (iI ct)])), (sa, .inl (cI, ks.length, .inl (zf so))), (r, .inr (5, [.ref a, .int (iI (ks.length : Int))])), (a, .inl (cI, n, .inl (zf f))), (b, .inr (1, [.ref lf, .ref rt])), (lf, .inl (cI, 9, .inl (zf gl1))), (rt, .inl (cI, 9, .inl (zf gr1))), (bf, .inl (cI, ks.length, .inl (zf fb1)))] H → va_D A [(t, .inr (0, [.ref sa, .ref za, .int (iI ct)])), (sa, .inl (cI, ks.length, .inl (zf so))), (r, .inr (5, [.ref a, .int (iI (ks.length : Int))])), (a, .inl (cI, n, .inl (zf f))), (b, .inr (1, [.ref lf, .ref rt])), (lf, .inl (cI, 9, .inl (zf gl1))), (rt, .inl (cI, 9, .inl (zf gr1))), (bf, .inl (cI, ks.length, .inl (zf fb1)))] → va_S A s.heap H locs → ∀ (ls : Array Slot), lv_has ls 7 [(0, .ref t), (1, .int (iI c9)), (2, .ref r), (3, .ref b), (4, .ref bf), (5, .int (iI (i : Int)))] → W p l e (headSpec wAS_joinBy rmAS_joinBy).room s m args below meth c H locs 0 0 Q (F0 m 3 ls []) := by
    intro n9
    induction n9 with
    | zero => intro i gl1 gr1 fb1 hi hI hm; exact absurd hm (Nat.not_lt_zero _)
    | succ n9 ih3 =>
      intro i gl1 gr1 fb1 hi hI hm3 H locs hP hD hS ls hl
      refine lv_iload hx hb dAS_joinBy_3 (lv_at hl 5 rfl) ?_
      refine lv_aload hx hb dAS_joinBy_5 (lv_at hl 4 rfl) ?_
      refine lz_alen hx hb hK hP 7 0 rfl rfl dAS_joinBy_7 ?_
      refine lz_icmp_ge (tgt := 54) hx hb dAS_joinBy_8 (by decide) (by omega) (by omega) (fun c_8 => ?_) (fun c_8 => ?_)
      · have hin : i = ks.length := by omega
        have hbf : ∀ j, j < ks.length → ∀ k, k < ks.length → timesK (ks.getD j (-1)) c9 = ks.getD k (-1) → fb1 k = (j : Int) := fun j hj => hI j (by omega)
        clear hI hin
        refine lv_iconst (v := iI (0)) hx hb dAS_joinBy_54 rfl ?_
        refine lv_istore (lv' := [(5, .int (iI 0)), (0, .ref t), (1, .int (iI c9)), (2, .ref r), (3, .ref b), (4, .ref bf)]) hx hb dAS_joinBy_55 hl (by decide) rfl (fun ls hl => ?_)
        have lp57 : ∀ (n9 : Nat) (i : Nat) (s1 : Nat → Int) (ct1 : Int) (gl2 gr2 : Nat → Int), (i ≤ ks.length) → (ASt ks s1 ct1) → (∀ x y, x < ks.length → y < ks.length → so x = so y → s1 x = s1 y) → (∀ x, x < i → ∀ y, y < ks.length → timesK c9 (ks.getD x (-1)) = timesK (ks.getD y (-1)) c9 → s1 x = s1 y) → (ks.length - i) < n9 → ∀ (H : Heap) (locs : List Loc), va_P D vwCl [(t, .inr (0, [.ref sa, .ref za, .int (iI ct1)])), (sa, .inl (cI, ks.length, .inl (zf s1))), (r, .inr (5, [.ref a, .int (iI (ks.length : Int))])), (a, .inl (cI, n, .inl (zf f))), (b, .inr (1, [.ref lf, .ref rt])), (lf, .inl (cI, 9, .inl (zf gl2))), (rt, .inl (cI, 9, .inl (zf gr2))), (bf, .inl (cI, ks.length, .inl (zf fb1)))] H → va_D A [(t, .inr (0, [.ref sa, .ref za, .int (iI ct1)])), (sa, .inl (cI, ks.length, .inl (zf s1))), (r, .inr (5, [.ref a, .int (iI (ks.length : Int))])), (a, .inl (cI, n, .inl (zf f))), (b, .inr (1, [.ref lf, .ref rt])), (lf, .inl (cI, 9, .inl (zf gl2))), (rt, .inl (cI, 9, .inl (zf gr2))), (bf, .inl (cI, ks.length, .inl (zf fb1)))] → va_S A s.heap H locs → ∀ (ls : Array Slot), lv_has ls 7 [(0, .ref t), (1, .int (iI c9)), (2, .ref r), (3, .ref b), (4, .ref bf), (5, .int (iI (i : Int)))] → W p l e (headSpec wAS_joinBy rmAS_joinBy).room s m args below meth c H locs 0 0 Q (F0 m 57 ls []) := by
          intro n9
          induction n9 with
          | zero => intro i s1 ct1 gl2 gr2 hi2 hA3 hmo hJ hm; exact absurd hm (Nat.not_lt_zero _)
          | succ n9 ih57 =>
            intro i s1 ct1 gl2 gr2 hi2 hA3 hmo hJ hm57 H locs hP hD hS ls hl
            refine lv_iload hx hb dAS_joinBy_57 (lv_at hl 5 rfl) ?_
            refine lv_aload hx hb dAS_joinBy_59 (lv_at hl 4 rfl) ?_
            refine lz_alen hx hb hK hP 7 0 rfl rfl dAS_joinBy_61 ?_
            refine lz_icmp_ge (tgt := 112) hx hb dAS_joinBy_62 (by decide) (by omega) (by omega) (fun c_62 => ?_) (fun c_62 => ?_)
            · exact hret H locs 0 0 112 ls (s1, ct1, gl2, gr2, fb1) ⟨hA3, hmo, fun x y hx9 hy e => hJ x (by omega) y hy e⟩ (hP.sub [0, 1, 2, 3, 4, 5, 6, 7] rfl) (hD.sub [0, 1, 2, 3, 4, 5, 6, 7] (by decide) rfl) hS (Nat.zero_le _) (Nat.zero_le _) dAS_joinBy_112
            · refine lv_aload_n hx hb dAS_joinBy_65 rfl (lv_at hl 2 rfl) ?_
              refine lv_aload_n hx hb dAS_joinBy_66 rfl (lv_at hl 3 rfl) ?_
              refine lv_iload_n hx hb dAS_joinBy_67 rfl (lv_at hl 1 rfl) ?_
              refine lv_aload_n hx hb dAS_joinBy_68 rfl (lv_at hl 2 rfl) ?_
              refine lv_iload hx hb dAS_joinBy_69 (lv_at hl 5 rfl) ?_
              refine zRI.back ((va_runV (As := [.int (iI (i : Int))]) (rest := [.int (iI c9), .ref b, .ref r]) ⟨hx, hb, hml, hown, hts⟩ (mRO_at l D cI cG r a n f ks (i : Int) h (by omega)) (cwV 1 hts (gT1 lkAS_33 (gT1 imRO_at (gT1 seRO_at (gT1 iniRO (gTW kcRO_at))))) rfl rfl rfl (by decide +kernel) ⟨Nat.le_of_ble_eq_true rfl, Nat.le_of_ble_eq_true rfl⟩) ⟨zRd_blind, va_recv hK hP (ci := 5) (q0 := 2) rfl rfl, zRd.at (wc := [(r, .inr (5, [.ref a, .int (iI (ks.length : Int))])), (a, .inl (cI, n, .inl (zf f)))]) hK (hP.sub (ws' := [(r, .inr (5, [.ref a, .int (iI (ks.length : Int))])), (a, .inl (cI, n, .inl (zf f)))]) [2, 3] rfl) (stF.now hX hS)⟩ rfl rfl hl.1 rfl (lv_room (Nat.le_of_ble_eq_true rfl)) dAS_joinBy_71 ⟨Nat.le_of_ble_eq_true rfl, Nat.le_of_ble_eq_true rfl⟩).run) (fun z_71 q_71 => ?_)
              obtain rfl : z_71 = ks.getD i (-1) := by have q9 : z_71 = lat ks (i : Int) := q_71; rw [q9]; exact (lat_in (by omega) (by omega)).1
              refine zI.back (va_runV (As := [.int (iI c9), .int (iI (ks.getD i (-1)))]) (rest := [.ref r]) ⟨hx, hb, hml, hown, hts⟩ ((mBE_times l D cI cG b lf rt gl2 gr2 c9 (ks.getD i (-1)) hck (hkk i (by omega))) H.size) (cwV 2 hts (gT1 lkAS_51 (gT1 imBE_times (gT1 seBE_times (gT1 iniBE (gTW kcBE_times))))) rfl rfl rfl (by decide +kernel) ⟨Nat.le_of_ble_eq_true rfl, Nat.le_of_ble_eq_true rfl⟩) ⟨zPre_blind, va_recv hK hP (ci := 1) (q0 := 4) rfl rfl, zPre.at (wc := [(b, .inr (1, [.ref lf, .ref rt])), (lf, .inl (cI, 9, .inl (zf gl2))), (rt, .inl (cI, 9, .inl (zf gr2)))]) hK hP hD hS hA hX [4, 5, 6] (by decide) rfl⟩ rfl rfl hl.1 rfl (lv_room (Nat.le_of_ble_eq_true rfl)) dAS_joinBy_74 ⟨Nat.le_of_ble_eq_true rfl, Nat.le_of_ble_eq_true rfl⟩) (wr := [(t, .inr (0, [.ref sa, .ref za, .int (iI ct1)])), (sa, .inl (cI, ks.length, .inl (zf s1))), (r, .inr (5, [.ref a, .int (iI (ks.length : Int))])), (a, .inl (cI, n, .inl (zf f))), (bf, .inl (cI, ks.length, .inl (zf fb1)))]) hP hD hS hA [4, 5, 6] [0, 1, 2, 3, 7] rfl rfl (by decide) (by decide) (fun z_74 u_74 H locs q_74 hP hD hS hz_74 hk_74 => ?_)
              obtain rfl : z_74 = timesK c9 (ks.getD i (-1)) := q_74
              have hP : va_P D vwCl [(t, .inr (0, [.ref sa, .ref za, .int (iI ct1)])), (sa, .inl (cI, ks.length, .inl (zf s1))), (r, .inr (5, [.ref a, .int (iI (ks.length : Int))])), (a, .inl (cI, n, .inl (zf f))), (bf, .inl (cI, ks.length, .inl (zf fb1))), (b, .inr (1, [.ref lf, .ref rt])), (lf, .inl (cI, 9, .inl (zf (rd c9 gl2)))), (rt, .inl (cI, 9, .inl (zf (rd (ks.getD i (-1)) gr2))))] H := hP
              have hD : va_D A [(t, .inr (0, [.ref sa, .ref za, .int (iI ct1)])), (sa, .inl (cI, ks.length, .inl (zf s1))), (r, .inr (5, [.ref a, .int (iI (ks.length : Int))])), (a, .inl (cI, n, .inl (zf f))), (bf, .inl (cI, ks.length, .inl (zf fb1))), (b, .inr (1, [.ref lf, .ref rt])), (lf, .inl (cI, 9, .inl (zf (rd c9 gl2)))), (rt, .inl (cI, 9, .inl (zf (rd (ks.getD i (-1)) gr2))))] := hD
              refine zRI.back ((va_runV (As := [.int (iI (timesK c9 (ks.getD i (-1))))]) (rest := []) ⟨hx, hb, hml, hown, hts⟩ (mRO_indexOf l D cI cG r a n f ks (timesK c9 (ks.getD i (-1))) h (by have := times_bd c9 (ks.getD i (-1)); omega)) (cwV 1 hts (gT1 lkAS_57 (gT1 imRO_indexOf (gT1 seRO_indexOf (gT1 iniRO (gTW kcRO_indexOf))))) rfl rfl rfl (by decide +kernel) ⟨Nat.le_of_ble_eq_true rfl, Nat.le_of_ble_eq_true rfl⟩) ⟨zRd_blind, va_recv hK hP (ci := 5) (q0 := 2) rfl rfl, zRd.at (wc := [(r, .inr (5, [.ref a, .int (iI (ks.length : Int))])), (a, .inl (cI, n, .inl (zf f)))]) hK (hP.sub (ws' := [(r, .inr (5, [.ref a, .int (iI (ks.length : Int))])), (a, .inl (cI, n, .inl (zf f)))]) [2, 3] rfl) (stF.now hX hS)⟩ rfl rfl hl.1 rfl (lv_room (Nat.le_of_ble_eq_true rfl)) dAS_joinBy_77 ⟨Nat.le_of_ble_eq_true rfl, Nat.le_of_ble_eq_true rfl⟩).run) (fun z_77 q_77 => ?_)
              have q_77 : lix ks (timesK c9 (ks.getD i (-1))) z_77 := q_77
              obtain ⟨k9, hk9, ek9, rfl⟩ : ∃ k9 : Nat, k9 < ks.length ∧ ks.getD k9 (-1) = timesK c9 (ks.getD i (-1)) ∧ z_77 = (k9 : Int) := by
                rcases q_77 with ⟨_, q1, q2, q3⟩ | ⟨q, _⟩
                · exact ⟨z_77.toNat, by omega, q3, by omega⟩
                · exact absurd (hG.2.2.2 _ hc9 _ (getD_mem (by omega))) q
              refine lv_istore (lv' := [(6, .int (iI (k9 : Int))), (0, .ref t), (1, .int (iI c9)), (2, .ref r), (3, .ref b), (4, .ref bf), (5, .int (iI (i : Int)))]) hx hb dAS_joinBy_80 hl (by decide) rfl (fun ls hl => ?_)
              refine lv_iload hx hb dAS_joinBy_82 (lv_at hl 0 rfl) ?_
              refine lz_if_lt (tgt := 106) hx hb dAS_joinBy_84 (by decide) (by omega) (fun c_84 => ?_) (fun c_84 => ?_)
              · exact absurd c_84 (by omega)
              · refine lv_iload hx hb dAS_joinBy_87 (lv_at hl 0 rfl) ?_
                refine lv_aload hx hb dAS_joinBy_89 (lv_at hl 5 rfl) ?_
                refine lz_alen hx hb hK hP 4 0 rfl rfl dAS_joinBy_91 ?_
                refine lz_icmp_ge (tgt := 106) hx hb dAS_joinBy_92 (by decide) (by omega) (by omega) (fun c_92 => ?_) (fun c_92 => ?_)
                · exact absurd c_92 (by omega)
                · refine lv_aload_n hx hb dAS_joinBy_95 rfl (lv_at hl 1 rfl) ?_
                  refine lv_iload hx hb dAS_joinBy_96 (lv_at hl 6 rfl) ?_
                  refine lv_aload hx hb dAS_joinBy_98 (lv_at hl 5 rfl) ?_
                  refine lv_iload hx hb dAS_joinBy_100 (lv_at hl 0 rfl) ?_
                  obtain ⟨b9, hb9, eb0⟩ : ∃ b9, b9 < ks.length ∧ timesK (ks.getD b9 (-1)) c9 = ks.getD k9 (-1) := by
                    obtain ⟨d, hd, e1, e2⟩ := hG.inv hc9
                    obtain ⟨b9, hb9, eb⟩ := mem_getD (hG.2.2.2 _ (getD_mem hk9) _ hd)
                    exact ⟨b9, hb9, by rw [eb, hG.assoc (getD_mem hk9) hd hc9, e2, hG.ur (getD_mem hk9)]⟩
                  have eb9 : timesK (ks.getD b9 (-1)) c9 = ks.getD k9 (-1) := eb0
                  have hfb := hbf b9 hb9 k9 hk9 eb0
                  refine lz_ialk hx hb hK hP 4 0 rfl rfl (z := (k9 : Int)) k9 rfl (by omega) dAS_joinBy_102 ?_
                  refine lz_as (x := fb1 k9) (y := (b9 : Int)) (hfb) ?_
                  refine zV.back (va_runV (As := [.int (iI (i : Int)), .int (iI (b9 : Int))]) (rest := []) ⟨hx, hb, hml, hown, hts⟩ ((mAS_join l D cI cG t sa za ks.length s1 ct1 i b9 hA3.1 hn (by omega) hb9) H.size) (cwV 2 hts (gT1 lkAS_60 (gT1 imAS_join (gT1 seAS_join (gT1 iniAS (gTW kcAS_join))))) rfl rfl rfl (by decide +kernel) ⟨Nat.le_of_ble_eq_true rfl, Nat.le_of_ble_eq_true rfl⟩) ⟨zPre_blind, va_recv hK hP (ci := 0) (q0 := 0) rfl rfl, zPre.at (wc := [(t, .inr (0, [.ref sa, .ref za, .int (iI ct1)])), (sa, .inl (cI, ks.length, .inl (zf s1)))]) hK hP hD hS hA hX [0, 1] (by decide) rfl⟩ rfl rfl hl.1 rfl (lv_room (Nat.le_of_ble_eq_true rfl)) dAS_joinBy_103 ⟨Nat.le_of_ble_eq_true rfl, Nat.le_of_ble_eq_true rfl⟩) (wr := [(r, .inr (5, [.ref a, .int (iI (ks.length : Int))])), (a, .inl (cI, n, .inl (zf f))), (bf, .inl (cI, ks.length, .inl (zf fb1))), (b, .inr (1, [.ref lf, .ref rt])), (lf, .inl (cI, 9, .inl (zf (rd c9 gl2)))), (rt, .inl (cI, 9, .inl (zf (rd (ks.getD i (-1)) gr2))))]) hP hD hS hA [0, 1] [2, 3, 4, 5, 6, 7] rfl rfl (by decide) (by decide) (fun u_103 H locs q_103 hP hD hS hz_103 hk_103 => ?_)
                  have hal : alk ks i b9 := ⟨c9, hc9, ek9.symm.trans eb9.symm⟩
                  have hres : ASt ks u_103.1 u_103.2 ∧ (∀ x y, x < ks.length → y < ks.length → s1 x = s1 y → u_103.1 x = u_103.1 y) ∧ u_103.1 i = u_103.1 b9 := by
                    rcases q_103 with ⟨q1, q2, q3⟩ | ⟨q1, q2, q3⟩
                    · rw [q2, q3]; exact ⟨hA3, fun x y _ _ e => e, q1⟩
                    · rw [q3]; exact ⟨hA3.join hG (by omega) hb9 hal q1 q2, fun x y hx9 hy e => jn_mono q2 hx9 hy e, jn_eq q2 (by omega) hb9⟩
                  obtain ⟨hA4, hmn, hjq⟩ := hres
                  have hP : va_P D vwCl [(r, .inr (5, [.ref a, .int (iI (ks.length : Int))])), (a, .inl (cI, n, .inl (zf f))), (bf, .inl (cI, ks.length, .inl (zf fb1))), (b, .inr (1, [.ref lf, .ref rt])), (lf, .inl (cI, 9, .inl (zf (rd c9 gl2)))), (rt, .inl (cI, 9, .inl (zf (rd (ks.getD i (-1)) gr2)))), (t, .inr (0, [.ref sa, .ref za, .int (iI u_103.2)])), (sa, .inl (cI, ks.length, .inl (zf u_103.1)))] H := hP
                  have hD : va_D A [(r, .inr (5, [.ref a, .int (iI (ks.length : Int))])), (a, .inl (cI, n, .inl (zf f))), (bf, .inl (cI, ks.length, .inl (zf fb1))), (b, .inr (1, [.ref lf, .ref rt])), (lf, .inl (cI, 9, .inl (zf (rd c9 gl2)))), (rt, .inl (cI, 9, .inl (zf (rd (ks.getD i (-1)) gr2)))), (t, .inr (0, [.ref sa, .ref za, .int (iI u_103.2)])), (sa, .inl (cI, ks.length, .inl (zf u_103.1)))] := hD
                  refine lz_iinc (lv' := [(5, .int (iI ((i : Int) + 1))), (6, .int (iI (k9 : Int))), (0, .ref t), (1, .int (iI c9)), (2, .ref r), (3, .ref b), (4, .ref bf)]) hx hb dAS_joinBy_106 hl (k := 6) rfl (by decide) rfl (fun ls hl => ?_)
                  refine lv_goto (tgt := 57) hx hb dAS_joinBy_109 (by decide) ?_
                  exact ih57 (i + 1) u_103.1 u_103.2 (rd c9 gl2) (rd (ks.getD i (-1)) gr2) (by omega) hA4 (fun x y hx9 hy e => hmn x y hx9 hy (hmo x y hx9 hy e)) (fun x hx9 y hy e => by
                      rcases Nat.lt_or_ge x i with q | q
                      · exact hmn x y (by omega) hy (hJ x q y hy e)
                      · obtain rfl : x = i := by omega
                        have : y = b9 := getD_nd hnd hy hb9 (hG.rc hc9 (getD_mem hy) (getD_mem hb9) (e.symm.trans (ek9.symm.trans eb9.symm)))
                        rw [this]; exact hjq) (by omega) _ _ (hP.sub [6, 7, 0, 1, 3, 4, 5, 2] rfl) (hD.sub [6, 7, 0, 1, 3, 4, 5, 2] (by decide) rfl) hS _ (lv_sub hl [2, 3, 4, 5, 6, 0] rfl)
        exact lp57 _ 0 so ct gl1 gr1 (Nat.zero_le _) hA9 (fun x y _ _ e => e) (fun x hx9 => absurd hx9 (Nat.not_lt_zero _)) (Nat.lt_succ_self _) _ _ (hP.sub [0, 1, 2, 3, 4, 5, 6, 7] rfl) (hD.sub [0, 1, 2, 3, 4, 5, 6, 7] (by decide) rfl) hS _ (lv_sub hl [1, 2, 3, 4, 5, 0] rfl)
      · refine lv_aload_n hx hb dAS_joinBy_11 rfl (lv_at hl 2 rfl) ?_
        refine lv_aload_n hx hb dAS_joinBy_12 rfl (lv_at hl 3 rfl) ?_
        refine lv_aload_n hx hb dAS_joinBy_13 rfl (lv_at hl 2 rfl) ?_
        refine lv_iload hx hb dAS_joinBy_14 (lv_at hl 5 rfl) ?_
        refine zRI.back ((va_runV (As := [.int (iI (i : Int))]) (rest := [.ref b, .ref r]) ⟨hx, hb, hml, hown, hts⟩ (mRO_at l D cI cG r a n f ks (i : Int) h (by omega)) (cwV 1 hts (gT1 lkAS_33 (gT1 imRO_at (gT1 seRO_at (gT1 iniRO (gTW kcRO_at))))) rfl rfl rfl (by decide +kernel) ⟨Nat.le_of_ble_eq_true rfl, Nat.le_of_ble_eq_true rfl⟩) ⟨zRd_blind, va_recv hK hP (ci := 5) (q0 := 2) rfl rfl, zRd.at (wc := [(r, .inr (5, [.ref a, .int (iI (ks.length : Int))])), (a, .inl (cI, n, .inl (zf f)))]) hK (hP.sub (ws' := [(r, .inr (5, [.ref a, .int (iI (ks.length : Int))])), (a, .inl (cI, n, .inl (zf f)))]) [2, 3] rfl) (stF.now hX hS)⟩ rfl rfl hl.1 rfl (lv_room (Nat.le_of_ble_eq_true rfl)) dAS_joinBy_16 ⟨Nat.le_of_ble_eq_true rfl, Nat.le_of_ble_eq_true rfl⟩).run) (fun z_16 q_16 => ?_)
        obtain rfl : z_16 = ks.getD i (-1) := by have q9 : z_16 = lat ks (i : Int) := q_16; rw [q9]; exact (lat_in (by omega) (by omega)).1
        refine lv_iload_n hx hb dAS_joinBy_19 rfl (lv_at hl 1 rfl) ?_
        refine zI.back (va_runV (As := [.int (iI (ks.getD i (-1))), .int (iI c9)]) (rest := [.ref r]) ⟨hx, hb, hml, hown, hts⟩ ((mBE_times l D cI cG b lf rt gl1 gr1 (ks.getD i (-1)) c9 (hkk i (by omega)) hck) H.size) (cwV 2 hts (gT1 lkAS_51 (gT1 imBE_times (gT1 seBE_times (gT1 iniBE (gTW kcBE_times))))) rfl rfl rfl (by decide +kernel) ⟨Nat.le_of_ble_eq_true rfl, Nat.le_of_ble_eq_true rfl⟩) ⟨zPre_blind, va_recv hK hP (ci := 1) (q0 := 4) rfl rfl, zPre.at (wc := [(b, .inr (1, [.ref lf, .ref rt])), (lf, .inl (cI, 9, .inl (zf gl1))), (rt, .inl (cI, 9, .inl (zf gr1)))]) hK hP hD hS hA hX [4, 5, 6] (by decide) rfl⟩ rfl rfl hl.1 rfl (lv_room (Nat.le_of_ble_eq_true rfl)) dAS_joinBy_20 ⟨Nat.le_of_ble_eq_true rfl, Nat.le_of_ble_eq_true rfl⟩) (wr := [(t, .inr (0, [.ref sa, .ref za, .int (iI ct)])), (sa, .inl (cI, ks.length, .inl (zf so))), (r, .inr (5, [.ref a, .int (iI (ks.length : Int))])), (a, .inl (cI, n, .inl (zf f))), (bf, .inl (cI, ks.length, .inl (zf fb1)))]) hP hD hS hA [4, 5, 6] [0, 1, 2, 3, 7] rfl rfl (by decide) (by decide) (fun z_20 u_20 H locs q_20 hP hD hS hz_20 hk_20 => ?_)
        obtain rfl : z_20 = timesK (ks.getD i (-1)) c9 := q_20
        have hP : va_P D vwCl [(t, .inr (0, [.ref sa, .ref za, .int (iI ct)])), (sa, .inl (cI, ks.length, .inl (zf so))), (r, .inr (5, [.ref a, .int (iI (ks.length : Int))])), (a, .inl (cI, n, .inl (zf f))), (bf, .inl (cI, ks.length, .inl (zf fb1))), (b, .inr (1, [.ref lf, .ref rt])), (lf, .inl (cI, 9, .inl (zf (rd (ks.getD i (-1)) gl1)))), (rt, .inl (cI, 9, .inl (zf (rd c9 gr1))))] H := hP
        have hD : va_D A [(t, .inr (0, [.ref sa, .ref za, .int (iI ct)])), (sa, .inl (cI, ks.length, .inl (zf so))), (r, .inr (5, [.ref a, .int (iI (ks.length : Int))])), (a, .inl (cI, n, .inl (zf f))), (bf, .inl (cI, ks.length, .inl (zf fb1))), (b, .inr (1, [.ref lf, .ref rt])), (lf, .inl (cI, 9, .inl (zf (rd (ks.getD i (-1)) gl1)))), (rt, .inl (cI, 9, .inl (zf (rd c9 gr1))))] := hD
        refine zRI.back ((va_runV (As := [.int (iI (timesK (ks.getD i (-1)) c9))]) (rest := []) ⟨hx, hb, hml, hown, hts⟩ (mRO_indexOf l D cI cG r a n f ks (timesK (ks.getD i (-1)) c9) h (by have := times_bd (ks.getD i (-1)) c9; omega)) (cwV 1 hts (gT1 lkAS_57 (gT1 imRO_indexOf (gT1 seRO_indexOf (gT1 iniRO (gTW kcRO_indexOf))))) rfl rfl rfl (by decide +kernel) ⟨Nat.le_of_ble_eq_true rfl, Nat.le_of_ble_eq_true rfl⟩) ⟨zRd_blind, va_recv hK hP (ci := 5) (q0 := 2) rfl rfl, zRd.at (wc := [(r, .inr (5, [.ref a, .int (iI (ks.length : Int))])), (a, .inl (cI, n, .inl (zf f)))]) hK (hP.sub (ws' := [(r, .inr (5, [.ref a, .int (iI (ks.length : Int))])), (a, .inl (cI, n, .inl (zf f)))]) [2, 3] rfl) (stF.now hX hS)⟩ rfl rfl hl.1 rfl (lv_room (Nat.le_of_ble_eq_true rfl)) dAS_joinBy_23 ⟨Nat.le_of_ble_eq_true rfl, Nat.le_of_ble_eq_true rfl⟩).run) (fun z_23 q_23 => ?_)
        have q_23 : lix ks (timesK (ks.getD i (-1)) c9) z_23 := q_23
        obtain ⟨k9, hk9, ek9, rfl⟩ : ∃ k9 : Nat, k9 < ks.length ∧ ks.getD k9 (-1) = timesK (ks.getD i (-1)) c9 ∧ z_23 = (k9 : Int) := by
          rcases q_23 with ⟨_, q1, q2, q3⟩ | ⟨q, _⟩
          · exact ⟨z_23.toNat, by omega, q3, by omega⟩
          · exact absurd (hG.2.2.2 _ (getD_mem (by omega)) _ hc9) q
        refine lv_istore (lv' := [(6, .int (iI (k9 : Int))), (0, .ref t), (1, .int (iI c9)), (2, .ref r), (3, .ref b), (4, .ref bf), (5, .int (iI (i : Int)))]) hx hb dAS_joinBy_26 hl (by decide) rfl (fun ls hl => ?_)
        refine lv_iload hx hb dAS_joinBy_28 (lv_at hl 0 rfl) ?_
        refine lz_if_lt (tgt := 48) hx hb dAS_joinBy_30 (by decide) (by omega) (fun c_30 => ?_) (fun c_30 => ?_)
        · exact absurd c_30 (by omega)
        · refine lv_iload hx hb dAS_joinBy_33 (lv_at hl 0 rfl) ?_
          refine lv_aload hx hb dAS_joinBy_35 (lv_at hl 5 rfl) ?_
          refine lz_alen hx hb hK hP 4 0 rfl rfl dAS_joinBy_37 ?_
          refine lz_icmp_ge (tgt := 48) hx hb dAS_joinBy_38 (by decide) (by omega) (by omega) (fun c_38 => ?_) (fun c_38 => ?_)
          · exact absurd c_38 (by omega)
          · refine lv_aload hx hb dAS_joinBy_41 (lv_at hl 5 rfl) ?_
            refine lv_iload hx hb dAS_joinBy_43 (lv_at hl 0 rfl) ?_
            refine lv_iload hx hb dAS_joinBy_45 (lv_at hl 6 rfl) ?_
            refine lz_iask hx hb hK hP hD hS 4 0 rfl rfl (z := (k9 : Int)) (v := (i : Int)) k9 rfl (by omega) dAS_joinBy_47 (fun H locs hP hD hS => ?_)
            have hP : va_P D vwCl [(t, .inr (0, [.ref sa, .ref za, .int (iI ct)])), (sa, .inl (cI, ks.length, .inl (zf so))), (r, .inr (5, [.ref a, .int (iI (ks.length : Int))])), (a, .inl (cI, n, .inl (zf f))), (bf, .inl (cI, ks.length, .inl (zf (zu fb1 k9 (i : Int))))), (b, .inr (1, [.ref lf, .ref rt])), (lf, .inl (cI, 9, .inl (zf (rd (ks.getD i (-1)) gl1)))), (rt, .inl (cI, 9, .inl (zf (rd c9 gr1))))] H := hP
            have hD : va_D A [(t, .inr (0, [.ref sa, .ref za, .int (iI ct)])), (sa, .inl (cI, ks.length, .inl (zf so))), (r, .inr (5, [.ref a, .int (iI (ks.length : Int))])), (a, .inl (cI, n, .inl (zf f))), (bf, .inl (cI, ks.length, .inl (zf (zu fb1 k9 (i : Int))))), (b, .inr (1, [.ref lf, .ref rt])), (lf, .inl (cI, 9, .inl (zf (rd (ks.getD i (-1)) gl1)))), (rt, .inl (cI, 9, .inl (zf (rd c9 gr1))))] := hD
            refine lz_iinc (lv' := [(5, .int (iI ((i : Int) + 1))), (6, .int (iI (k9 : Int))), (0, .ref t), (1, .int (iI c9)), (2, .ref r), (3, .ref b), (4, .ref bf)]) hx hb dAS_joinBy_48 hl (k := 6) rfl (by decide) rfl (fun ls hl => ?_)
            refine lv_goto (tgt := 3) hx hb dAS_joinBy_51 (by decide) ?_
            exact ih3 (i + 1) (rd (ks.getD i (-1)) gl1) (rd c9 gr1) (zu fb1 k9 (i : Int)) (by omega) (fun j hj k hk e => by
                unfold zu
                by_cases q : k = k9
                · rw [if_pos q]
                  subst q
                  have : j = i := getD_nd hnd (by omega) (by omega) (hG.rc hc9 (getD_mem (by omega)) (getD_mem (by omega)) (e.trans ek9))
                  rw [this]
                · rw [if_neg q]
                  rcases Nat.lt_or_ge j i with q2 | q2
                  · exact hI j q2 k hk e
                  · obtain rfl : j = i := by omega
                    exact absurd (getD_nd hnd hk hk9 (e.symm.trans ek9.symm)) q) (by omega) _ _ (hP.sub [0, 1, 2, 3, 5, 6, 7, 4] rfl) (hD.sub [0, 1, 2, 3, 5, 6, 7, 4] (by decide) rfl) hS _ (lv_sub hl [2, 3, 4, 5, 6, 0] rfl)
  exact lp3 _ 0 gl gr fb (Nat.zero_le _) (fun j hj => absurd hj (Nat.not_lt_zero _)) (Nat.lt_succ_self _) _ _ (hP.sub [0, 1, 2, 3, 4, 5, 6, 7] rfl) (hD.sub [0, 1, 2, 3, 4, 5, 6, 7] (by decide) rfl) hS _ (lv_sub hl [1, 2, 3, 4, 5, 0] rfl)
