/-! GroupHallsModel: made, isHalf: written by wip/whole -/
def rmMO_made : Room := { frames := 0, cells := 0, slots := 0, locals := 0 }
set_option maxHeartbeats 4000000 in
set_option maxRecDepth 100000 in
theorem mMO_made (l : Launch) (D : va_G) (cI cJ cZ : ClassId) (q : MoA) (cn gn ln : Int) (ks : List Int) (e9 : Nat) (gs : List Int) (ft mk fg fo : Nat → Int) (hG : isG ks) (hs : ks.Pairwise (· < ·)) (hln : ks.length ≤ 192) (he : e9 < ks.length) (hu : ks.getD e9 (-1) = u0) (ht : tbOK ks ft) (hgl : gs.length ≤ 16) (hge : emi ks fg gs) (hmk : ∀ t, t < ks.length → mk t = 0) : zI l yMO_made wMO_made rmMO_made D vwCl (zM cI cJ cZ) [.ref q.mo, .int (iI (e9 : Int)), .int (iI (gs.length : Int))] [(moC q cn gn ln), (q.xt, .inl (cI, 36864, .inl (zf ft))), (q.xr, .inl (cI, 200, .inl (zf mk))), (q.xg, .inl (cI, 16, .inl (zf fg))), (q.xo, .inl (cI, 200, .inl (zf fo)))] (S := ((Nat → Int) × (Nat → Int))) (fun z u => ∃ K, genOK gs K ∧ z = (K.length : Int) ∧ ∀ x ∈ K, x ∈ ks) (fun u => [(moC q cn gn ln), (q.xt, .inl (cI, 36864, .inl (zf ft))), (q.xr, .inl (cI, 200, .inl (zf u.1))), (q.xg, .inl (cI, 16, .inl (zf fg))), (q.xo, .inl (cI, 200, .inl (zf u.2)))]) := by
  refine zI.of (cc := cMO_made) (maxL := 7) (rt := .int) (by decide) rfl (Nat.le_of_ble_eq_true rfl) (fun _ _ _ => rfl) ?_
  intro p e s m args below meth c A ls Q hx hb hml hown hts hnm hK hD hA hAe hX hl hret H locs hP hS
  have hl : lv_has ls 7 [(0, .ref q.mo), (1, .int (iI (e9 : Int))), (2, .int (iI (gs.length : Int)))] := hl
  have hgs : ∀ a ∈ gs, a ∈ ks := hge.sub
  have hv : ∀ a ∈ gs, vOK a := fun a ha => hG.2.2.1 a (hgs a ha)
  refine lv_iconst (v := iI (1)) hx hb dMO_made_0 rfl ?_
  refine lv_istore_n (lv' := [(3, .int (iI 1)), (0, .ref q.mo), (1, .int (iI (e9 : Int))), (2, .int (iI (gs.length : Int)))]) hx hb dMO_made_1 rfl hl (by decide) rfl (fun ls hl => ?_)
  refine lv_aload_n hx hb dMO_made_2 rfl (lv_at hl 1 rfl) ?_
  refine va_get (D := D) (ci := 7) (v := .ref q.xo) (C := nMO) (T := fMO) (N := 24) hx hb hts iwMO hown hK hP 0 rfl rfl 19 (by decide) (hts _ (List.mem_cons_of_mem _ lkMO_61)) (fun _ h9 => h9) rfl dMO_made_3 ?_
  refine lv_iconst (v := iI (0)) hx hb dMO_made_6 rfl ?_
  refine lv_iload_n hx hb dMO_made_7 rfl (lv_at hl 2 rfl) ?_
  refine lz_iask hx hb hK hP hD hS 4 0 rfl rfl (z := 0) (v := (e9 : Int)) 0 rfl (by omega) dMO_made_8 (fun H locs hP hD hS => ?_)
  have hP : va_P D vwCl [(moC q cn gn ln), (q.xt, .inl (cI, 36864, .inl (zf ft))), (q.xr, .inl (cI, 200, .inl (zf mk))), (q.xg, .inl (cI, 16, .inl (zf fg))), (q.xo, .inl (cI, 200, .inl (zf (zu fo 0 (e9 : Int)))))] H := hP
  have hD : va_D A [(moC q cn gn ln), (q.xt, .inl (cI, 36864, .inl (zf ft))), (q.xr, .inl (cI, 200, .inl (zf mk))), (q.xg, .inl (cI, 16, .inl (zf fg))), (q.xo, .inl (cI, 200, .inl (zf (zu fo 0 (e9 : Int)))))] := hD
  refine lv_aload_n hx hb dMO_made_9 rfl (lv_at hl 1 rfl) ?_
  refine va_get (D := D) (ci := 7) (v := .ref q.xr) (C := nMO) (T := fMO) (N := 24) hx hb hts iwMO hown hK hP 0 rfl rfl 17 (by decide) (hts _ (List.mem_cons_of_mem _ lkMO_55)) (fun _ h9 => h9) rfl dMO_made_10 ?_
  refine lv_iload_n hx hb dMO_made_13 rfl (lv_at hl 2 rfl) ?_
  refine lv_iconst (v := iI (1)) hx hb dMO_made_14 rfl ?_
  refine lz_iask hx hb hK hP hD hS 2 0 rfl rfl (z := (e9 : Int)) (v := 1) e9 rfl (by omega) dMO_made_15 (fun H locs hP hD hS => ?_)
  have hP : va_P D vwCl [(moC q cn gn ln), (q.xt, .inl (cI, 36864, .inl (zf ft))), (q.xr, .inl (cI, 200, .inl (zf (zu mk e9 1)))), (q.xg, .inl (cI, 16, .inl (zf fg))), (q.xo, .inl (cI, 200, .inl (zf (zu fo 0 (e9 : Int)))))] H := hP
  have hD : va_D A [(moC q cn gn ln), (q.xt, .inl (cI, 36864, .inl (zf ft))), (q.xr, .inl (cI, 200, .inl (zf (zu mk e9 1)))), (q.xg, .inl (cI, 16, .inl (zf fg))), (q.xo, .inl (cI, 200, .inl (zf (zu fo 0 (e9 : Int)))))] := hD
  refine lv_iconst (v := iI (0)) hx hb dMO_made_16 rfl ?_
  refine lv_istore (lv' := [(4, .int (iI 0)), (3, .int (iI 1)), (0, .ref q.mo), (1, .int (iI (e9 : Int))), (2, .int (iI (gs.length : Int)))]) hx hb dMO_made_17 hl (by decide) rfl (fun ls hl => ?_)
  rw [show 1 = (([u0] : List Int).length : Int) from rfl] at hl
  have lp19 : ∀ (n9 : Nat) (k : Nat) (L : List Int) (m1 fo1 : Nat → Int), (BI gs L k) → (emi ks fo1 L) → (mkL ks m1 L) → (193 - k) < n9 → ∀ (H : Heap) (locs : List Loc), va_P D vwCl [(moC q cn gn ln), (q.xt, .inl (cI, 36864, .inl (zf ft))), (q.xr, .inl (cI, 200, .inl (zf m1))), (q.xg, .inl (cI, 16, .inl (zf fg))), (q.xo, .inl (cI, 200, .inl (zf fo1)))] H → va_D A [(moC q cn gn ln), (q.xt, .inl (cI, 36864, .inl (zf ft))), (q.xr, .inl (cI, 200, .inl (zf m1))), (q.xg, .inl (cI, 16, .inl (zf fg))), (q.xo, .inl (cI, 200, .inl (zf fo1)))] → va_S A s.heap H locs → ∀ (ls : Array Slot), lv_has ls 7 [(0, .ref q.mo), (1, .int (iI (e9 : Int))), (2, .int (iI (gs.length : Int))), (3, .int (iI (L.length : Int))), (4, .int (iI (k : Int)))] → W p l e (headSpec wMO_made rmMO_made).room s m args below meth c H locs 0 0 Q (F0 m 19 ls []) := by
    intro n9
    induction n9 with
    | zero => intro k L m1 fo1 hB hE hM hm; exact absurd hm (Nat.not_lt_zero _)
    | succ n9 ih19 =>
      intro k L m1 fo1 hB hE hM hm19 H locs hP hD hS ls hl
      have hLn : L.length ≤ ks.length := sub_len (hB).1 (hE).sub
      have hkL := hB.2.2.2.1
      refine lv_iload hx hb dMO_made_19 (lv_at hl 4 rfl) ?_
      refine lv_iload_n hx hb dMO_made_21 rfl (lv_at hl 3 rfl) ?_
      refine lz_icmp_ge (tgt := 104) hx hb dMO_made_22 (by decide) (by omega) (by omega) (fun c_22 => ?_) (fun c_22 => ?_)
      · refine lv_iload_n hx hb dMO_made_104 rfl (lv_at hl 3 rfl) ?_
        exact hret H locs 0 0 105 ls (L.length : Int) (m1, fo1) (by
              have hB9 := hB
              rw [show k = L.length by omega] at hB9
              obtain ⟨K, g1, g2, g3, g4⟩ := hB9.done (by omega) hv
              exact ⟨K, g1, by omega, fun x hx9 => hE.sub x ((g2 x).mpr hx9)⟩) (hP.sub [0, 1, 2, 3, 4] rfl) (hD.sub [0, 1, 2, 3, 4] (by decide) rfl) hS (Nat.zero_le _) (Nat.zero_le _) dMO_made_105
      · refine lv_iconst (v := iI (0)) hx hb dMO_made_25 rfl ?_
        refine lv_istore (lv' := [(5, .int (iI 0)), (0, .ref q.mo), (1, .int (iI (e9 : Int))), (2, .int (iI (gs.length : Int))), (3, .int (iI (L.length : Int))), (4, .int (iI (k : Int)))]) hx hb dMO_made_26 hl (by decide) rfl (fun ls hl => ?_)
        have lp28 : ∀ (n9 : Nat) (i : Nat) (L2 : List Int) (m2 fo2 : Nat → Int), (i ≤ gs.length) → (k < L2.length) → (BI gs L2 k) → (emi ks fo2 L2) → (mkL ks m2 L2) → (∀ t, t < i → timesK (L2.getD k (-1)) (gs.getD t (-1)) ∈ L2) → (gs.length - i) < n9 → ∀ (H : Heap) (locs : List Loc), va_P D vwCl [(moC q cn gn ln), (q.xt, .inl (cI, 36864, .inl (zf ft))), (q.xr, .inl (cI, 200, .inl (zf m2))), (q.xg, .inl (cI, 16, .inl (zf fg))), (q.xo, .inl (cI, 200, .inl (zf fo2)))] H → va_D A [(moC q cn gn ln), (q.xt, .inl (cI, 36864, .inl (zf ft))), (q.xr, .inl (cI, 200, .inl (zf m2))), (q.xg, .inl (cI, 16, .inl (zf fg))), (q.xo, .inl (cI, 200, .inl (zf fo2)))] → va_S A s.heap H locs → ∀ (ls : Array Slot), lv_has ls 7 [(0, .ref q.mo), (1, .int (iI (e9 : Int))), (2, .int (iI (gs.length : Int))), (3, .int (iI (L2.length : Int))), (4, .int (iI (k : Int))), (5, .int (iI (i : Int)))] → W p l e (headSpec wMO_made rmMO_made).room s m args below meth c H locs 0 0 Q (F0 m 28 ls []) := by
          intro n9
          induction n9 with
          | zero => intro i L2 m2 fo2 hi hk2 hB2 hE2 hM2 hT2 hm; exact absurd hm (Nat.not_lt_zero _)
          | succ n9 ih28 =>
            intro i L2 m2 fo2 hi hk2 hB2 hE2 hM2 hT2 hm28 H locs hP hD hS ls hl
            have hLn : L2.length ≤ ks.length := sub_len (hB2).1 (hE2).sub
            refine lv_iload hx hb dMO_made_28 (lv_at hl 5 rfl) ?_
            refine lv_iload_n hx hb dMO_made_30 rfl (lv_at hl 2 rfl) ?_
            refine lz_icmp_ge (tgt := 98) hx hb dMO_made_31 (by decide) (by omega) (by omega) (fun c_31 => ?_) (fun c_31 => ?_)
            · refine lz_iinc (lv' := [(4, .int (iI ((k : Int) + 1))), (0, .ref q.mo), (1, .int (iI (e9 : Int))), (2, .int (iI (gs.length : Int))), (3, .int (iI (L2.length : Int))), (5, .int (iI (i : Int)))]) hx hb dMO_made_98 hl (k := 4) rfl (by decide) rfl (fun ls hl => ?_)
              refine lv_goto (tgt := 19) hx hb dMO_made_101 (by decide) ?_
              exact ih19 (k + 1) L2 m2 fo2 (hB2.next hk2 (fun t ht9 => hT2 t (by omega))) hE2 hM2 (by omega) _ _ (hP.sub [0, 1, 2, 3, 4] rfl) (hD.sub [0, 1, 2, 3, 4] (by decide) rfl) hS _ (lv_sub hl [1, 2, 3, 4, 0] rfl)
            · obtain ⟨t, ht1, ht2, ht3⟩ := hE2 k hk2
              obtain ⟨s9, hs1, hs2, hs3⟩ := hge i (by omega)
              obtain ⟨hx1, hx2⟩ := tix_ok hG ht1 hs1
              rw [ht3, hs3] at hx2
              refine lv_aload_n hx hb dMO_made_34 rfl (lv_at hl 0 rfl) ?_
              refine va_get (D := D) (ci := 7) (v := .ref q.xt) (C := nMO) (T := fMO) (N := 24) hx hb hts iwMO hown hK hP 0 rfl rfl 16 (by decide) (hts _ (List.mem_cons_of_mem _ lkMO_52)) (fun _ h9 => h9) rfl dMO_made_35 ?_
              refine lv_sipush (v := iI (192)) hx hb dMO_made_38 (by decide) ?_
              refine lv_aload_n hx hb dMO_made_41 rfl (lv_at hl 0 rfl) ?_
              refine va_get (D := D) (ci := 7) (v := .ref q.xo) (C := nMO) (T := fMO) (N := 24) hx hb hts iwMO hown hK hP 0 rfl rfl 19 (by decide) (hts _ (List.mem_cons_of_mem _ lkMO_61)) (fun _ h9 => h9) rfl dMO_made_42 ?_
              refine lv_iload hx hb dMO_made_45 (lv_at hl 4 rfl) ?_
              refine lz_ialk hx hb hK hP 4 0 rfl rfl (z := (k : Int)) k rfl (by omega) dMO_made_47 ?_
              refine lz_as (x := fo2 k) (y := (t : Int)) (ht2) ?_
              refine lz_imul hx hb dMO_made_48 ?_
              refine lv_aload_n hx hb dMO_made_49 rfl (lv_at hl 0 rfl) ?_
              refine va_get (D := D) (ci := 7) (v := .ref q.xg) (C := nMO) (T := fMO) (N := 24) hx hb hts iwMO hown hK hP 0 rfl rfl 18 (by decide) (hts _ (List.mem_cons_of_mem _ lkMO_58)) (fun _ h9 => h9) rfl dMO_made_50 ?_
              refine lv_iload hx hb dMO_made_53 (lv_at hl 5 rfl) ?_
              refine lz_ialk hx hb hK hP 3 0 rfl rfl (z := (i : Int)) i rfl (by omega) dMO_made_55 ?_
              refine lz_as (x := fg i) (y := (s9 : Int)) (hs2) ?_
              refine lz_iadd hx hb dMO_made_56 ?_
              refine lz_ialk hx hb hK hP 1 0 rfl rfl (z := (192 * (t : Int)) + (s9 : Int)) (192 * t + s9) (by omega) (by omega) dMO_made_57 ?_
              refine lz_as (x := ft (192 * t + s9)) (y := (tix ks t s9 : Int)) (ht _ _ ht1 hs1) ?_
              refine lv_istore (lv' := [(6, .int (iI (tix ks t s9 : Int))), (0, .ref q.mo), (1, .int (iI (e9 : Int))), (2, .int (iI (gs.length : Int))), (3, .int (iI (L2.length : Int))), (4, .int (iI (k : Int))), (5, .int (iI (i : Int)))]) hx hb dMO_made_58 hl (by decide) rfl (fun ls hl => ?_)
              refine lv_aload_n hx hb dMO_made_60 rfl (lv_at hl 1 rfl) ?_
              refine va_get (D := D) (ci := 7) (v := .ref q.xr) (C := nMO) (T := fMO) (N := 24) hx hb hts iwMO hown hK hP 0 rfl rfl 17 (by decide) (hts _ (List.mem_cons_of_mem _ lkMO_55)) (fun _ h9 => h9) rfl dMO_made_61 ?_
              refine lv_iload hx hb dMO_made_64 (lv_at hl 0 rfl) ?_
              refine lz_ialk hx hb hK hP 2 0 rfl rfl (z := (tix ks t s9 : Int)) (tix ks t s9) rfl (by omega) dMO_made_66 ?_
              refine lz_if_eq (tgt := 73) hx hb dMO_made_67 (by decide) (by rcases hM2 _ hx1 with ⟨q9, _⟩ | ⟨q9, _⟩ <;> omega) (fun c_67 => ?_) (fun c_67 => ?_)
              · have hnl : timesK (L2.getD k (-1)) (gs.getD i (-1)) ∉ L2 := by
                  rcases hM2 _ hx1 with ⟨q9, _⟩ | ⟨_, q9⟩
                  · omega
                  · rw [hx2] at q9; exact q9
                have hne : timesK (L2.getD k (-1)) (gs.getD i (-1)) ≠ -1 := by rw [← hx2]; exact hG.ne (getD_mem hx1)
                refine lv_aload_n hx hb dMO_made_73 rfl (lv_at hl 1 rfl) ?_
                refine va_get (D := D) (ci := 7) (v := .ref q.xr) (C := nMO) (T := fMO) (N := 24) hx hb hts iwMO hown hK hP 0 rfl rfl 17 (by decide) (hts _ (List.mem_cons_of_mem _ lkMO_55)) (fun _ h9 => h9) rfl dMO_made_74 ?_
                refine lv_iload hx hb dMO_made_77 (lv_at hl 0 rfl) ?_
                refine lv_iconst (v := iI (1)) hx hb dMO_made_79 rfl ?_
                refine lz_iask hx hb hK hP hD hS 2 0 rfl rfl (z := (tix ks t s9 : Int)) (v := 1) (tix ks t s9) rfl (by omega) dMO_made_80 (fun H locs hP hD hS => ?_)
                have hP : va_P D vwCl [(moC q cn gn ln), (q.xt, .inl (cI, 36864, .inl (zf ft))), (q.xr, .inl (cI, 200, .inl (zf (zu m2 (tix ks t s9) 1)))), (q.xg, .inl (cI, 16, .inl (zf fg))), (q.xo, .inl (cI, 200, .inl (zf fo2)))] H := hP
                have hD : va_D A [(moC q cn gn ln), (q.xt, .inl (cI, 36864, .inl (zf ft))), (q.xr, .inl (cI, 200, .inl (zf (zu m2 (tix ks t s9) 1)))), (q.xg, .inl (cI, 16, .inl (zf fg))), (q.xo, .inl (cI, 200, .inl (zf fo2)))] := hD
                refine lv_aload_n hx hb dMO_made_81 rfl (lv_at hl 1 rfl) ?_
                refine va_get (D := D) (ci := 7) (v := .ref q.xo) (C := nMO) (T := fMO) (N := 24) hx hb hts iwMO hown hK hP 0 rfl rfl 19 (by decide) (hts _ (List.mem_cons_of_mem _ lkMO_61)) (fun _ h9 => h9) rfl dMO_made_82 ?_
                refine lv_iload_n hx hb dMO_made_85 rfl (lv_at hl 4 rfl) ?_
                refine lv_iload hx hb dMO_made_86 (lv_at hl 0 rfl) ?_
                refine lz_iask hx hb hK hP hD hS 4 0 rfl rfl (z := (L2.length : Int)) (v := (tix ks t s9 : Int)) L2.length rfl (by omega) dMO_made_88 (fun H locs hP hD hS => ?_)
                have hP : va_P D vwCl [(moC q cn gn ln), (q.xt, .inl (cI, 36864, .inl (zf ft))), (q.xr, .inl (cI, 200, .inl (zf (zu m2 (tix ks t s9) 1)))), (q.xg, .inl (cI, 16, .inl (zf fg))), (q.xo, .inl (cI, 200, .inl (zf (zu fo2 L2.length (tix ks t s9 : Int)))))] H := hP
                have hD : va_D A [(moC q cn gn ln), (q.xt, .inl (cI, 36864, .inl (zf ft))), (q.xr, .inl (cI, 200, .inl (zf (zu m2 (tix ks t s9) 1)))), (q.xg, .inl (cI, 16, .inl (zf fg))), (q.xo, .inl (cI, 200, .inl (zf (zu fo2 L2.length (tix ks t s9 : Int)))))] := hD
                refine lz_iinc (lv' := [(3, .int (iI ((L2.length : Int) + 1))), (6, .int (iI (tix ks t s9 : Int))), (0, .ref q.mo), (1, .int (iI (e9 : Int))), (2, .int (iI (gs.length : Int))), (4, .int (iI (k : Int))), (5, .int (iI (i : Int)))]) hx hb dMO_made_89 hl (k := 4) rfl (by decide) rfl (fun ls hl => ?_)
                refine lz_iinc (lv' := [(5, .int (iI ((i : Int) + 1))), (3, .int (iI ((L2.length : Int) + 1))), (6, .int (iI (tix ks t s9 : Int))), (0, .ref q.mo), (1, .int (iI (e9 : Int))), (2, .int (iI (gs.length : Int))), (4, .int (iI (k : Int)))]) hx hb dMO_made_92 hl (k := 6) rfl (by decide) rfl (fun ls hl => ?_)
                refine lv_goto (tgt := 28) hx hb dMO_made_95 (by decide) ?_
                rw [show (L2.length : Int) + 1 = ((L2 ++ [timesK (L2.getD k (-1)) (gs.getD i (-1))]).length : Int) from by rw [len_snoc]; rfl] at hl
                exact ih28 (i + 1) (L2 ++ [timesK (L2.getD k (-1)) (gs.getD i (-1))]) (zu m2 (tix ks t s9) 1) (zu fo2 L2.length (tix ks t s9 : Int)) (by omega) (by rw [len_snoc]; omega) (hB2.push hv (getD_mem hk2) (getD_mem (by omega)) hne hnl) (hE2.push hx1 hx2) (hM2.push hs hx1 hx2) (fun t9 h9 => by
                    rw [getD_snoc_l hk2]
                    rcases Nat.lt_or_ge t9 i with g9 | g9
                    · exact List.mem_append_left _ (hT2 t9 g9)
                    · obtain rfl : t9 = i := by omega
                      exact List.mem_append_right _ (List.mem_singleton.mpr rfl)) (by omega) _ _ (hP.sub [0, 1, 2, 3, 4] rfl) (hD.sub [0, 1, 2, 3, 4] (by decide) rfl) hS _ (lv_sub hl [3, 4, 5, 1, 6, 0] rfl)
              · refine lv_goto (tgt := 92) hx hb dMO_made_70 (by decide) ?_
                refine lz_iinc (lv' := [(5, .int (iI ((i : Int) + 1))), (6, .int (iI (tix ks t s9 : Int))), (0, .ref q.mo), (1, .int (iI (e9 : Int))), (2, .int (iI (gs.length : Int))), (3, .int (iI (L2.length : Int))), (4, .int (iI (k : Int)))]) hx hb dMO_made_92 hl (k := 6) rfl (by decide) rfl (fun ls hl => ?_)
                refine lv_goto (tgt := 28) hx hb dMO_made_95 (by decide) ?_
                exact ih28 (i + 1) L2 m2 fo2 (by omega) hk2 hB2 hE2 hM2 (fun t9 h9 => by
                    rcases Nat.lt_or_ge t9 i with g9 | g9
                    · exact hT2 t9 g9
                    · obtain rfl : t9 = i := by omega
                      rcases hM2 _ hx1 with ⟨_, q9⟩ | ⟨q9, _⟩
                      · rw [hx2] at q9; exact q9
                      · exact absurd q9 c_67) (by omega) _ _ (hP.sub [0, 1, 2, 3, 4] rfl) (hD.sub [0, 1, 2, 3, 4] (by decide) rfl) hS _ (lv_sub hl [2, 3, 4, 5, 6, 0] rfl)
        exact lp28 _ 0 L m1 fo1 (Nat.zero_le _) (by omega) hB hE hM (fun t h9 => absurd h9 (Nat.not_lt_zero _)) (Nat.lt_succ_self _) _ _ (hP.sub [0, 1, 2, 3, 4] rfl) (hD.sub [0, 1, 2, 3, 4] (by decide) rfl) hS _ (lv_sub hl [1, 2, 3, 4, 5, 0] rfl)
  exact lp19 _ 0 ([u0]) (zu mk e9 1) (zu fo 0 (e9 : Int)) (BI.start gs) (emi.start he hu) (mkL.start hs hmk he hu) (Nat.lt_succ_self _) _ _ (hP.sub [0, 1, 2, 3, 4] rfl) (hD.sub [0, 1, 2, 3, 4] (by decide) rfl) hS _ (lv_sub hl [2, 3, 4, 1, 0] rfl)

def rmMO_isHalf : Room := { frames := 0, cells := 0, slots := 0, locals := 0 }
set_option maxHeartbeats 4000000 in
set_option maxRecDepth 100000 in
theorem mMO_isHalf (l : Launch) (D : va_G) (cI cJ cZ : ClassId) (q : MoA) (cn gn ln : Int) (ks : List Int) (e9 : Nat) (gs : List Int) (ch : Nat) (ft mk fg fo : Nat → Int) (hG : isG ks) (hs : ks.Pairwise (· < ·)) (hln : ks.length ≤ 192) (he : e9 < ks.length) (hu : ks.getD e9 (-1) = u0) (ht : tbOK ks ft) (hgl : gs.length ≤ 7) (hge : emi ks fg gs) (hall : ∀ x ∈ ks, Reach gs x) (hch : ch < 128) : zI l yMO_isHalf wMO_isHalf rmMO_isHalf D vwCl (zM cI cJ cZ) [.ref q.mo, .int (iI (e9 : Int)), .int (iI (ks.length : Int)), .int (iI (gs.length : Int)), .int (iI (ch : Int))] [(moC q cn gn ln), (q.xt, .inl (cI, 36864, .inl (zf ft))), (q.xr, .inl (cI, 200, .inl (zf mk))), (q.xg, .inl (cI, 16, .inl (zf fg))), (q.xo, .inl (cI, 200, .inl (zf fo)))] (S := ((Nat → Int) × (Nat → Int))) (fun z u => (z = 1 ∧ chiB ks (fun t => u.1 t = 1) ∧ (∀ t, t < ks.length → u.1 t = 1 ∨ u.1 t = 2) ∧ gSg ks gs ch (fun t => u.1 t = 1)) ∨ (z = 0 ∧ ¬ ∃ S, chiB ks S ∧ gSg ks gs ch S)) (fun u => [(moC q cn gn ln), (q.xt, .inl (cI, 36864, .inl (zf ft))), (q.xr, .inl (cI, 200, .inl (zf u.1))), (q.xg, .inl (cI, 16, .inl (zf fg))), (q.xo, .inl (cI, 200, .inl (zf u.2)))]) := by
  refine zI.of (cc := cMO_isHalf) (maxL := 10) (rt := .boolean) (by decide) rfl (Nat.le_of_ble_eq_true rfl) (fun z u h => by rcases h with ⟨rfl, _⟩ | ⟨rfl, _⟩ <;> decide) ?_
  intro p e s m args below meth c A ls Q hx hb hml hown hts hnm hK hD hA hAe hX hl hret H locs hP hS
  have hl : lv_has ls 10 [(0, .ref q.mo), (1, .int (iI (e9 : Int))), (2, .int (iI (ks.length : Int))), (3, .int (iI (gs.length : Int))), (4, .int (iI (ch : Int)))] := hl
  have hgs : ∀ a ∈ gs, a ∈ ks := hge.sub
  have hv : ∀ a ∈ gs, vOK a := fun a ha => hG.2.2.1 a (hgs a ha)
  refine lv_iconst (v := iI (0)) hx hb dMO_isHalf_0 rfl ?_
  refine lv_istore (lv' := [(5, .int (iI 0)), (0, .ref q.mo), (1, .int (iI (e9 : Int))), (2, .int (iI (ks.length : Int))), (3, .int (iI (gs.length : Int))), (4, .int (iI (ch : Int)))]) hx hb dMO_isHalf_1 hl (by decide) rfl (fun ls hl => ?_)
  have lp3 : ∀ (n9 : Nat) (i : Nat) (m0 : Nat → Int), (i ≤ ks.length) → (∀ t, t < i → m0 t = 0) → (ks.length - i) < n9 → ∀ (H : Heap) (locs : List Loc), va_P D vwCl [(moC q cn gn ln), (q.xt, .inl (cI, 36864, .inl (zf ft))), (q.xr, .inl (cI, 200, .inl (zf m0))), (q.xg, .inl (cI, 16, .inl (zf fg))), (q.xo, .inl (cI, 200, .inl (zf fo)))] H → va_D A [(moC q cn gn ln), (q.xt, .inl (cI, 36864, .inl (zf ft))), (q.xr, .inl (cI, 200, .inl (zf m0))), (q.xg, .inl (cI, 16, .inl (zf fg))), (q.xo, .inl (cI, 200, .inl (zf fo)))] → va_S A s.heap H locs → ∀ (ls : Array Slot), lv_has ls 10 [(0, .ref q.mo), (1, .int (iI (e9 : Int))), (2, .int (iI (ks.length : Int))), (3, .int (iI (gs.length : Int))), (4, .int (iI (ch : Int))), (5, .int (iI (i : Int)))] → W p l e (headSpec wMO_isHalf rmMO_isHalf).room s m args below meth c H locs 0 0 Q (F0 m 3 ls []) := by
    intro n9
    induction n9 with
    | zero => intro i m0 hi hz0 hm; exact absurd hm (Nat.not_lt_zero _)
    | succ n9 ih3 =>
      intro i m0 hi hz0 hm3 H locs hP hD hS ls hl
      refine lv_iload hx hb dMO_isHalf_3 (lv_at hl 5 rfl) ?_
      refine lv_iload_n hx hb dMO_isHalf_5 rfl (lv_at hl 2 rfl) ?_
      refine lz_icmp_ge (tgt := 23) hx hb dMO_isHalf_6 (by decide) (by omega) (by omega) (fun c_6 => ?_) (fun c_6 => ?_)
      · have hz1 : ∀ b, b < ks.length → m0 b = 0 := fun b hb => hz0 b (by omega)
        refine lv_aload_n hx hb dMO_isHalf_23 rfl (lv_at hl 0 rfl) ?_
        refine va_get (D := D) (ci := 7) (v := .ref q.xr) (C := nMO) (T := fMO) (N := 24) hx hb hts iwMO hown hK hP 0 rfl rfl 17 (by decide) (hts _ (List.mem_cons_of_mem _ lkMO_55)) (fun _ h9 => h9) rfl dMO_isHalf_24 ?_
        refine lv_iload_n hx hb dMO_isHalf_27 rfl (lv_at hl 1 rfl) ?_
        refine lv_iconst (v := iI (1)) hx hb dMO_isHalf_28 rfl ?_
        refine lz_iask hx hb hK hP hD hS 2 0 rfl rfl (z := (e9 : Int)) (v := 1) e9 rfl (by omega) dMO_isHalf_29 (fun H locs hP hD hS => ?_)
        have hP : va_P D vwCl [(moC q cn gn ln), (q.xt, .inl (cI, 36864, .inl (zf ft))), (q.xr, .inl (cI, 200, .inl (zf (zu m0 e9 1)))), (q.xg, .inl (cI, 16, .inl (zf fg))), (q.xo, .inl (cI, 200, .inl (zf fo)))] H := hP
        have hD : va_D A [(moC q cn gn ln), (q.xt, .inl (cI, 36864, .inl (zf ft))), (q.xr, .inl (cI, 200, .inl (zf (zu m0 e9 1)))), (q.xg, .inl (cI, 16, .inl (zf fg))), (q.xo, .inl (cI, 200, .inl (zf fo)))] := hD
        refine lv_aload_n hx hb dMO_isHalf_30 rfl (lv_at hl 0 rfl) ?_
        refine va_get (D := D) (ci := 7) (v := .ref q.xo) (C := nMO) (T := fMO) (N := 24) hx hb hts iwMO hown hK hP 0 rfl rfl 19 (by decide) (hts _ (List.mem_cons_of_mem _ lkMO_61)) (fun _ h9 => h9) rfl dMO_isHalf_31 ?_
        refine lv_iconst (v := iI (0)) hx hb dMO_isHalf_34 rfl ?_
        refine lv_iload_n hx hb dMO_isHalf_35 rfl (lv_at hl 1 rfl) ?_
        refine lz_iask hx hb hK hP hD hS 4 0 rfl rfl (z := 0) (v := (e9 : Int)) 0 rfl (by omega) dMO_isHalf_36 (fun H locs hP hD hS => ?_)
        have hP : va_P D vwCl [(moC q cn gn ln), (q.xt, .inl (cI, 36864, .inl (zf ft))), (q.xr, .inl (cI, 200, .inl (zf (zu m0 e9 1)))), (q.xg, .inl (cI, 16, .inl (zf fg))), (q.xo, .inl (cI, 200, .inl (zf (zu fo 0 (e9 : Int)))))] H := hP
        have hD : va_D A [(moC q cn gn ln), (q.xt, .inl (cI, 36864, .inl (zf ft))), (q.xr, .inl (cI, 200, .inl (zf (zu m0 e9 1)))), (q.xg, .inl (cI, 16, .inl (zf fg))), (q.xo, .inl (cI, 200, .inl (zf (zu fo 0 (e9 : Int)))))] := hD
        refine lv_iconst (v := iI (1)) hx hb dMO_isHalf_37 rfl ?_
        refine lv_istore (lv' := [(5, .int (iI 1)), (0, .ref q.mo), (1, .int (iI (e9 : Int))), (2, .int (iI (ks.length : Int))), (3, .int (iI (gs.length : Int))), (4, .int (iI (ch : Int)))]) hx hb dMO_isHalf_38 hl (by decide) rfl (fun ls hl => ?_)
        refine lv_iconst (v := iI (0)) hx hb dMO_isHalf_40 rfl ?_
        refine lv_istore (lv' := [(6, .int (iI 0)), (5, .int (iI 1)), (0, .ref q.mo), (1, .int (iI (e9 : Int))), (2, .int (iI (ks.length : Int))), (3, .int (iI (gs.length : Int))), (4, .int (iI (ch : Int)))]) hx hb dMO_isHalf_41 hl (by decide) rfl (fun ls hl => ?_)
        have hl : lv_has ls 10 [(6, .int (iI 0)), (5, .int (iI 1)), (0, .ref q.mo), (1, .int (iI (e9 : Int))), (2, .int (iI (ks.length : Int))), (3, .int (iI (gs.length : Int))), (4, .int (iI (ch : Int)))] := hl
        have lp43 : ∀ (n9 : Nat) (k : Nat) (L : List Int) (m1 fo1 : Nat → Int), (BI gs L k) → (emi ks fo1 L) → (mk2L ks m1 L) → (coL ks gs L ch m1 k 0) → (sdL ks gs ch m1) → (m1 e9 = 1) → (193 - k) < n9 → ∀ (H : Heap) (locs : List Loc), va_P D vwCl [(moC q cn gn ln), (q.xt, .inl (cI, 36864, .inl (zf ft))), (q.xr, .inl (cI, 200, .inl (zf m1))), (q.xg, .inl (cI, 16, .inl (zf fg))), (q.xo, .inl (cI, 200, .inl (zf fo1)))] H → va_D A [(moC q cn gn ln), (q.xt, .inl (cI, 36864, .inl (zf ft))), (q.xr, .inl (cI, 200, .inl (zf m1))), (q.xg, .inl (cI, 16, .inl (zf fg))), (q.xo, .inl (cI, 200, .inl (zf fo1)))] → va_S A s.heap H locs → ∀ (ls : Array Slot), lv_has ls 10 [(0, .ref q.mo), (1, .int (iI (e9 : Int))), (2, .int (iI (ks.length : Int))), (3, .int (iI (gs.length : Int))), (4, .int (iI (ch : Int))), (5, .int (iI (L.length : Int))), (6, .int (iI (k : Int)))] → W p l e (headSpec wMO_isHalf rmMO_isHalf).room s m args below meth c H locs 0 0 Q (F0 m 43 ls []) := by
          intro n9
          induction n9 with
          | zero => intro k L m1 fo1 hB hE hM hC hD9 hm1 hm; exact absurd hm (Nat.not_lt_zero _)
          | succ n9 ih43 =>
            intro k L m1 fo1 hB hE hM hC hD9 hm1 hm43 H locs hP hD hS ls hl
            have hLn : L.length ≤ ks.length := sub_len (hB).1 (hE).sub
            have hkL := hB.2.2.2.1
            refine lv_iload hx hb dMO_isHalf_43 (lv_at hl 6 rfl) ?_
            refine lv_iload hx hb dMO_isHalf_45 (lv_at hl 5 rfl) ?_
            refine lz_icmp_ge (tgt := 186) hx hb dMO_isHalf_47 (by decide) (by omega) (by omega) (fun c_47 => ?_) (fun c_47 => ?_)
            · refine lv_iconst (v := iI (1)) hx hb dMO_isHalf_186 rfl ?_
              exact hret H locs 0 0 187 ls 1 (m1, fo1) (Or.inl ⟨rfl, by
                    have hkk : k = L.length := by omega
                    rw [hkk] at hB hC
                    refine chi_of hG hs hgs hall hM hC (fun x hx9 => ?_) he hu hm1
                    exact (hall x hx9 (fun y => y ∈ L) hB.2.1 fun y a hy ha _ => by
                      obtain ⟨j, hj, rfl⟩ := mem_getD hy
                      exact hB.2.2.2.2 j hj a ha)⟩) (hP.sub [0, 1, 2, 3, 4] rfl) (hD.sub [0, 1, 2, 3, 4] (by decide) rfl) hS (Nat.zero_le _) (Nat.zero_le _) dMO_isHalf_187
            · refine lv_iconst (v := iI (0)) hx hb dMO_isHalf_50 rfl ?_
              refine lv_istore (lv' := [(7, .int (iI 0)), (0, .ref q.mo), (1, .int (iI (e9 : Int))), (2, .int (iI (ks.length : Int))), (3, .int (iI (gs.length : Int))), (4, .int (iI (ch : Int))), (5, .int (iI (L.length : Int))), (6, .int (iI (k : Int)))]) hx hb dMO_isHalf_51 hl (by decide) rfl (fun ls hl => ?_)
              have lp53 : ∀ (n9 : Nat) (i : Nat) (L2 : List Int) (m2 fo2 : Nat → Int), (i ≤ gs.length) → (k < L2.length) → (BI gs L2 k) → (emi ks fo2 L2) → (mk2L ks m2 L2) → (coL ks gs L2 ch m2 k i) → (sdL ks gs ch m2) → (m2 e9 = 1) → (∀ t, t < i → timesK (L2.getD k (-1)) (gs.getD t (-1)) ∈ L2) → (gs.length - i) < n9 → ∀ (H : Heap) (locs : List Loc), va_P D vwCl [(moC q cn gn ln), (q.xt, .inl (cI, 36864, .inl (zf ft))), (q.xr, .inl (cI, 200, .inl (zf m2))), (q.xg, .inl (cI, 16, .inl (zf fg))), (q.xo, .inl (cI, 200, .inl (zf fo2)))] H → va_D A [(moC q cn gn ln), (q.xt, .inl (cI, 36864, .inl (zf ft))), (q.xr, .inl (cI, 200, .inl (zf m2))), (q.xg, .inl (cI, 16, .inl (zf fg))), (q.xo, .inl (cI, 200, .inl (zf fo2)))] → va_S A s.heap H locs → ∀ (ls : Array Slot), lv_has ls 10 [(0, .ref q.mo), (1, .int (iI (e9 : Int))), (2, .int (iI (ks.length : Int))), (3, .int (iI (gs.length : Int))), (4, .int (iI (ch : Int))), (5, .int (iI (L2.length : Int))), (6, .int (iI (k : Int))), (7, .int (iI (i : Int)))] → W p l e (headSpec wMO_isHalf rmMO_isHalf).room s m args below meth c H locs 0 0 Q (F0 m 53 ls []) := by
                intro n9
                induction n9 with
                | zero => intro i L2 m2 fo2 hi hk2 hB2 hE2 hM2 hC2 hD2 hm2 hT2 hm; exact absurd hm (Nat.not_lt_zero _)
                | succ n9 ih53 =>
                  intro i L2 m2 fo2 hi hk2 hB2 hE2 hM2 hC2 hD2 hm2 hT2 hm53 H locs hP hD hS ls hl
                  have hLn : L2.length ≤ ks.length := sub_len (hB2).1 (hE2).sub
                  refine lv_iload hx hb dMO_isHalf_53 (lv_at hl 7 rfl) ?_
                  refine lv_iload_n hx hb dMO_isHalf_55 rfl (lv_at hl 3 rfl) ?_
                  refine lz_icmp_ge (tgt := 180) hx hb dMO_isHalf_56 (by decide) (by omega) (by omega) (fun c_56 => ?_) (fun c_56 => ?_)
                  · refine lz_iinc (lv' := [(6, .int (iI ((k : Int) + 1))), (0, .ref q.mo), (1, .int (iI (e9 : Int))), (2, .int (iI (ks.length : Int))), (3, .int (iI (gs.length : Int))), (4, .int (iI (ch : Int))), (5, .int (iI (L2.length : Int))), (7, .int (iI (i : Int)))]) hx hb dMO_isHalf_180 hl (k := 6) rfl (by decide) rfl (fun ls hl => ?_)
                    refine lv_goto (tgt := 43) hx hb dMO_isHalf_183 (by decide) ?_
                    exact ih43 (k + 1) L2 m2 fo2 (hB2.next hk2 (fun t ht9 => hT2 t (by omega))) hE2 hM2 (hC2.next (by omega)) hD2 hm2 (by omega) _ _ (hP.sub [0, 1, 2, 3, 4] rfl) (hD.sub [0, 1, 2, 3, 4] (by decide) rfl) hS _ (lv_sub hl [1, 2, 3, 4, 5, 6, 0] rfl)
                  · obtain ⟨t, ht1, ht2, ht3⟩ := hE2 k hk2
                    obtain ⟨s9, hs1, hs2, hs3⟩ := hge i (by omega)
                    obtain ⟨hx1, hx2⟩ := tix_ok hG ht1 hs1
                    have hx3 := hx2
                    rw [ht3, hs3] at hx3
                    have hmt : m2 t = 1 ∨ m2 t = 2 := by
                      rcases hM2 t ht1 with ⟨q9, _⟩ | ⟨_, q9⟩
                      · exact q9
                      · exact absurd (by rw [ht3]; exact getD_mem hk2) q9
                    have hmx : m2 (tix ks t s9) = 0 ∨ m2 (tix ks t s9) = 1 ∨ m2 (tix ks t s9) = 2 := by rcases hM2 _ hx1 with ⟨q9, _⟩ | ⟨q9, _⟩ <;> omega
                    have hfl := flp_in (ch := ch) (i := i) hmt
                    refine lv_aload_n hx hb dMO_isHalf_59 rfl (lv_at hl 0 rfl) ?_
                    refine va_get (D := D) (ci := 7) (v := .ref q.xt) (C := nMO) (T := fMO) (N := 24) hx hb hts iwMO hown hK hP 0 rfl rfl 16 (by decide) (hts _ (List.mem_cons_of_mem _ lkMO_52)) (fun _ h9 => h9) rfl dMO_isHalf_60 ?_
                    refine lv_sipush (v := iI (192)) hx hb dMO_isHalf_63 (by decide) ?_
                    refine lv_aload_n hx hb dMO_isHalf_66 rfl (lv_at hl 0 rfl) ?_
                    refine va_get (D := D) (ci := 7) (v := .ref q.xo) (C := nMO) (T := fMO) (N := 24) hx hb hts iwMO hown hK hP 0 rfl rfl 19 (by decide) (hts _ (List.mem_cons_of_mem _ lkMO_61)) (fun _ h9 => h9) rfl dMO_isHalf_67 ?_
                    refine lv_iload hx hb dMO_isHalf_70 (lv_at hl 6 rfl) ?_
                    refine lz_ialk hx hb hK hP 4 0 rfl rfl (z := (k : Int)) k rfl (by omega) dMO_isHalf_72 ?_
                    refine lz_as (x := fo2 k) (y := (t : Int)) (ht2) ?_
                    refine lz_imul hx hb dMO_isHalf_73 ?_
                    refine lv_aload_n hx hb dMO_isHalf_74 rfl (lv_at hl 0 rfl) ?_
                    refine va_get (D := D) (ci := 7) (v := .ref q.xg) (C := nMO) (T := fMO) (N := 24) hx hb hts iwMO hown hK hP 0 rfl rfl 18 (by decide) (hts _ (List.mem_cons_of_mem _ lkMO_58)) (fun _ h9 => h9) rfl dMO_isHalf_75 ?_
                    refine lv_iload hx hb dMO_isHalf_78 (lv_at hl 7 rfl) ?_
                    refine lz_ialk hx hb hK hP 3 0 rfl rfl (z := (i : Int)) i rfl (by omega) dMO_isHalf_80 ?_
                    refine lz_as (x := fg i) (y := (s9 : Int)) (hs2) ?_
                    refine lz_iadd hx hb dMO_isHalf_81 ?_
                    refine lz_ialk hx hb hK hP 1 0 rfl rfl (z := (192 * (t : Int)) + (s9 : Int)) (192 * t + s9) (by omega) (by omega) dMO_isHalf_82 ?_
                    refine lz_as (x := ft (192 * t + s9)) (y := (tix ks t s9 : Int)) (ht _ _ ht1 hs1) ?_
                    refine lv_istore (lv' := [(8, .int (iI (tix ks t s9 : Int))), (0, .ref q.mo), (1, .int (iI (e9 : Int))), (2, .int (iI (ks.length : Int))), (3, .int (iI (gs.length : Int))), (4, .int (iI (ch : Int))), (5, .int (iI (L2.length : Int))), (6, .int (iI (k : Int))), (7, .int (iI (i : Int)))]) hx hb dMO_isHalf_83 hl (by decide) rfl (fun ls hl => ?_)
                    refine lv_iload hx hb dMO_isHalf_85 (lv_at hl 5 rfl) ?_
                    refine lv_iload hx hb dMO_isHalf_87 (lv_at hl 8 rfl) ?_
                    refine lz_ishr (z := ((ch / 2 ^ i : Nat) : Int)) hx hb dMO_isHalf_89 ((sh_bit ch i hch (by omega)).1) ?_
                    refine lv_iconst (v := iI (1)) hx hb dMO_isHalf_90 rfl ?_
                    refine lz_iand (z := ((ch / 2 ^ i % 2 : Nat) : Int)) hx hb dMO_isHalf_91 ((sh_bit ch i hch (by omega)).2) ?_
                    refine lz_if_ne (tgt := 110) hx hb dMO_isHalf_92 (by decide) (by omega) (fun c_92 => ?_) (fun c_92 => ?_)
                    · refine lv_iconst (v := iI (3)) hx hb dMO_isHalf_110 rfl ?_
                      refine lv_aload_n hx hb dMO_isHalf_111 rfl (lv_at hl 1 rfl) ?_
                      refine va_get (D := D) (ci := 7) (v := .ref q.xr) (C := nMO) (T := fMO) (N := 24) hx hb hts iwMO hown hK hP 0 rfl rfl 17 (by decide) (hts _ (List.mem_cons_of_mem _ lkMO_55)) (fun _ h9 => h9) rfl dMO_isHalf_112 ?_
                      refine lv_aload_n hx hb dMO_isHalf_115 rfl (lv_at hl 1 rfl) ?_
                      refine va_get (D := D) (ci := 7) (v := .ref q.xo) (C := nMO) (T := fMO) (N := 24) hx hb hts iwMO hown hK hP 0 rfl rfl 19 (by decide) (hts _ (List.mem_cons_of_mem _ lkMO_61)) (fun _ h9 => h9) rfl dMO_isHalf_116 ?_
                      refine lv_iload hx hb dMO_isHalf_119 (lv_at hl 7 rfl) ?_
                      refine lz_ialk hx hb hK hP 4 0 rfl rfl (z := (k : Int)) k rfl (by omega) dMO_isHalf_121 ?_
                      refine lz_as (x := fo2 k) (y := (t : Int)) (ht2) ?_
                      refine lz_ialk hx hb hK hP 2 0 rfl rfl (z := (t : Int)) t rfl (by omega) dMO_isHalf_122 ?_
                      refine lz_isub hx hb dMO_isHalf_123 ?_
                      refine lz_as (x := 3 - (m2 t)) (y := flp ch i (m2 t)) (flp_f (fun q9 => c_92 (bit_0.mpr q9))) ?_
                      refine lv_istore (lv' := [(9, .int (iI (flp ch i (m2 t)))), (8, .int (iI (tix ks t s9 : Int))), (0, .ref q.mo), (1, .int (iI (e9 : Int))), (2, .int (iI (ks.length : Int))), (3, .int (iI (gs.length : Int))), (4, .int (iI (ch : Int))), (5, .int (iI (L2.length : Int))), (6, .int (iI (k : Int))), (7, .int (iI (i : Int)))]) hx hb dMO_isHalf_124 hl (by decide) rfl (fun ls hl => ?_)
                      refine lv_aload_n hx hb dMO_isHalf_126 rfl (lv_at hl 2 rfl) ?_
                      refine va_get (D := D) (ci := 7) (v := .ref q.xr) (C := nMO) (T := fMO) (N := 24) hx hb hts iwMO hown hK hP 0 rfl rfl 17 (by decide) (hts _ (List.mem_cons_of_mem _ lkMO_55)) (fun _ h9 => h9) rfl dMO_isHalf_127 ?_
                      refine lv_iload hx hb dMO_isHalf_130 (lv_at hl 1 rfl) ?_
                      refine lz_ialk hx hb hK hP 2 0 rfl rfl (z := (tix ks t s9 : Int)) (tix ks t s9) rfl (by omega) dMO_isHalf_132 ?_
                      refine lz_if_ne (tgt := 160) hx hb dMO_isHalf_133 (by decide) (by omega) (fun c_133 => ?_) (fun c_133 => ?_)
                      · refine lv_aload_n hx hb dMO_isHalf_160 rfl (lv_at hl 2 rfl) ?_
                        refine va_get (D := D) (ci := 7) (v := .ref q.xr) (C := nMO) (T := fMO) (N := 24) hx hb hts iwMO hown hK hP 0 rfl rfl 17 (by decide) (hts _ (List.mem_cons_of_mem _ lkMO_55)) (fun _ h9 => h9) rfl dMO_isHalf_161 ?_
                        refine lv_iload hx hb dMO_isHalf_164 (lv_at hl 1 rfl) ?_
                        refine lz_ialk hx hb hK hP 2 0 rfl rfl (z := (tix ks t s9 : Int)) (tix ks t s9) rfl (by omega) dMO_isHalf_166 ?_
                        refine lv_iload hx hb dMO_isHalf_167 (lv_at hl 0 rfl) ?_
                        refine lz_icmp_eq (tgt := 174) hx hb dMO_isHalf_169 (by decide) (by omega) (by omega) (fun c_169 => ?_) (fun c_169 => ?_)
                        · refine lz_iinc (lv' := [(7, .int (iI ((i : Int) + 1))), (9, .int (iI (flp ch i (m2 t)))), (8, .int (iI (tix ks t s9 : Int))), (0, .ref q.mo), (1, .int (iI (e9 : Int))), (2, .int (iI (ks.length : Int))), (3, .int (iI (gs.length : Int))), (4, .int (iI (ch : Int))), (5, .int (iI (L2.length : Int))), (6, .int (iI (k : Int)))]) hx hb dMO_isHalf_174 hl (k := 9) rfl (by decide) rfl (fun ls hl => ?_)
                          refine lv_goto (tgt := 53) hx hb dMO_isHalf_177 (by decide) ?_
                          exact ih53 (i + 1) L2 m2 fo2 (by omega) hk2 hB2 hE2 hM2 (hC2.keep hs ht1 hs1 ht3 hs3 c_169) hD2 hm2 (fun t9 h9 => by
                              rcases Nat.lt_or_ge t9 i with g9 | g9
                              · exact hT2 t9 g9
                              · obtain rfl : t9 = i := by omega
                                rcases hM2 _ hx1 with ⟨_, q9⟩ | ⟨q9, _⟩
                                · rw [hx3] at q9; exact q9
                                · omega) (by omega) _ _ (hP.sub [0, 1, 2, 3, 4] rfl) (hD.sub [0, 1, 2, 3, 4] (by decide) rfl) hS _ (lv_sub hl [3, 4, 5, 6, 7, 8, 9, 0] rfl)
                        · refine lv_iconst (v := iI (0)) hx hb dMO_isHalf_172 rfl ?_
                          exact hret H locs 0 0 173 ls 0 (m2, fo2) (Or.inr ⟨rfl, hD2.clash hG ht1 hs1 (by omega) hs3 hmt (by omega) c_169⟩) (hP.sub [0, 1, 2, 3, 4] rfl) (hD.sub [0, 1, 2, 3, 4] (by decide) rfl) hS (Nat.zero_le _) (Nat.zero_le _) dMO_isHalf_173
                      · have hnl : timesK (L2.getD k (-1)) (gs.getD i (-1)) ∉ L2 := by
                          rcases hM2 _ hx1 with ⟨q9, _⟩ | ⟨_, q9⟩
                          · omega
                          · rw [hx3] at q9; exact q9
                        have hne : timesK (L2.getD k (-1)) (gs.getD i (-1)) ≠ -1 := by rw [← hx3]; exact hG.ne (getD_mem hx1)
                        refine lv_aload_n hx hb dMO_isHalf_136 rfl (lv_at hl 2 rfl) ?_
                        refine va_get (D := D) (ci := 7) (v := .ref q.xr) (C := nMO) (T := fMO) (N := 24) hx hb hts iwMO hown hK hP 0 rfl rfl 17 (by decide) (hts _ (List.mem_cons_of_mem _ lkMO_55)) (fun _ h9 => h9) rfl dMO_isHalf_137 ?_
                        refine lv_iload hx hb dMO_isHalf_140 (lv_at hl 1 rfl) ?_
                        refine lv_iload hx hb dMO_isHalf_142 (lv_at hl 0 rfl) ?_
                        refine lz_iask hx hb hK hP hD hS 2 0 rfl rfl (z := (tix ks t s9 : Int)) (v := flp ch i (m2 t)) (tix ks t s9) rfl (by omega) dMO_isHalf_144 (fun H locs hP hD hS => ?_)
                        have hP : va_P D vwCl [(moC q cn gn ln), (q.xt, .inl (cI, 36864, .inl (zf ft))), (q.xr, .inl (cI, 200, .inl (zf (zu m2 (tix ks t s9) (flp ch i (m2 t)))))), (q.xg, .inl (cI, 16, .inl (zf fg))), (q.xo, .inl (cI, 200, .inl (zf fo2)))] H := hP
                        have hD : va_D A [(moC q cn gn ln), (q.xt, .inl (cI, 36864, .inl (zf ft))), (q.xr, .inl (cI, 200, .inl (zf (zu m2 (tix ks t s9) (flp ch i (m2 t)))))), (q.xg, .inl (cI, 16, .inl (zf fg))), (q.xo, .inl (cI, 200, .inl (zf fo2)))] := hD
                        refine lv_aload_n hx hb dMO_isHalf_145 rfl (lv_at hl 2 rfl) ?_
                        refine va_get (D := D) (ci := 7) (v := .ref q.xo) (C := nMO) (T := fMO) (N := 24) hx hb hts iwMO hown hK hP 0 rfl rfl 19 (by decide) (hts _ (List.mem_cons_of_mem _ lkMO_61)) (fun _ h9 => h9) rfl dMO_isHalf_146 ?_
                        refine lv_iload hx hb dMO_isHalf_149 (lv_at hl 7 rfl) ?_
                        refine lv_iload hx hb dMO_isHalf_151 (lv_at hl 1 rfl) ?_
                        refine lz_iask hx hb hK hP hD hS 4 0 rfl rfl (z := (L2.length : Int)) (v := (tix ks t s9 : Int)) L2.length rfl (by omega) dMO_isHalf_153 (fun H locs hP hD hS => ?_)
                        have hP : va_P D vwCl [(moC q cn gn ln), (q.xt, .inl (cI, 36864, .inl (zf ft))), (q.xr, .inl (cI, 200, .inl (zf (zu m2 (tix ks t s9) (flp ch i (m2 t)))))), (q.xg, .inl (cI, 16, .inl (zf fg))), (q.xo, .inl (cI, 200, .inl (zf (zu fo2 L2.length (tix ks t s9 : Int)))))] H := hP
                        have hD : va_D A [(moC q cn gn ln), (q.xt, .inl (cI, 36864, .inl (zf ft))), (q.xr, .inl (cI, 200, .inl (zf (zu m2 (tix ks t s9) (flp ch i (m2 t)))))), (q.xg, .inl (cI, 16, .inl (zf fg))), (q.xo, .inl (cI, 200, .inl (zf (zu fo2 L2.length (tix ks t s9 : Int)))))] := hD
                        refine lz_iinc (lv' := [(5, .int (iI ((L2.length : Int) + 1))), (9, .int (iI (flp ch i (m2 t)))), (8, .int (iI (tix ks t s9 : Int))), (0, .ref q.mo), (1, .int (iI (e9 : Int))), (2, .int (iI (ks.length : Int))), (3, .int (iI (gs.length : Int))), (4, .int (iI (ch : Int))), (6, .int (iI (k : Int))), (7, .int (iI (i : Int)))]) hx hb dMO_isHalf_154 hl (k := 7) rfl (by decide) rfl (fun ls hl => ?_)
                        refine lv_goto (tgt := 174) hx hb dMO_isHalf_157 (by decide) ?_
                        refine lz_iinc (lv' := [(7, .int (iI ((i : Int) + 1))), (5, .int (iI ((L2.length : Int) + 1))), (9, .int (iI (flp ch i (m2 t)))), (8, .int (iI (tix ks t s9 : Int))), (0, .ref q.mo), (1, .int (iI (e9 : Int))), (2, .int (iI (ks.length : Int))), (3, .int (iI (gs.length : Int))), (4, .int (iI (ch : Int))), (6, .int (iI (k : Int)))]) hx hb dMO_isHalf_174 hl (k := 9) rfl (by decide) rfl (fun ls hl => ?_)
                        refine lv_goto (tgt := 53) hx hb dMO_isHalf_177 (by decide) ?_
                        rw [show (L2.length : Int) + 1 = ((L2 ++ [timesK (L2.getD k (-1)) (gs.getD i (-1))]).length : Int) from by rw [len_snoc]; rfl] at hl
                        exact ih53 (i + 1) (L2 ++ [timesK (L2.getD k (-1)) (gs.getD i (-1))]) (zu m2 (tix ks t s9) (flp ch i (m2 t))) (zu fo2 L2.length (tix ks t s9 : Int)) (by omega) (by rw [len_snoc]; omega) (hB2.push hv (getD_mem hk2) (getD_mem (by omega)) hne hnl) (hE2.push hx1 hx3) (hM2.push hs hx1 hx3 (flp_in hmt)) (by
                            have := hC2.push hG hs hgs hE2.sub hM2 (fun j r hjr hj => by
                              rcases hjr with ⟨g1, g2⟩ | ⟨rfl, g2⟩
                              · exact hB2.2.2.2.2 j g1 _ (getD_mem g2)
                              · exact hT2 r g2) (by omega) hk2 ht1 hs1 ht3 hs3 (by rw [hx3]; exact hnl)
                            rw [hx3] at this
                            exact this) (hD2.push hG ht1 hs1 (by omega) hs3 hmt) (by rw [zu_n _ _ (fun q9 => by rw [← q9] at c_133; omega)]; exact hm2) (fun t9 h9 => by
                            rw [getD_snoc_l hk2]
                            rcases Nat.lt_or_ge t9 i with g9 | g9
                            · exact List.mem_append_left _ (hT2 t9 g9)
                            · obtain rfl : t9 = i := by omega
                              exact List.mem_append_right _ (List.mem_singleton.mpr rfl)) (by omega) _ _ (hP.sub [0, 1, 2, 3, 4] rfl) (hD.sub [0, 1, 2, 3, 4] (by decide) rfl) hS _ (lv_sub hl [4, 5, 6, 7, 8, 1, 9, 0] rfl)
                    · refine lv_aload_n hx hb dMO_isHalf_95 rfl (lv_at hl 1 rfl) ?_
                      refine va_get (D := D) (ci := 7) (v := .ref q.xr) (C := nMO) (T := fMO) (N := 24) hx hb hts iwMO hown hK hP 0 rfl rfl 17 (by decide) (hts _ (List.mem_cons_of_mem _ lkMO_55)) (fun _ h9 => h9) rfl dMO_isHalf_96 ?_
                      refine lv_aload_n hx hb dMO_isHalf_99 rfl (lv_at hl 1 rfl) ?_
                      refine va_get (D := D) (ci := 7) (v := .ref q.xo) (C := nMO) (T := fMO) (N := 24) hx hb hts iwMO hown hK hP 0 rfl rfl 19 (by decide) (hts _ (List.mem_cons_of_mem _ lkMO_61)) (fun _ h9 => h9) rfl dMO_isHalf_100 ?_
                      refine lv_iload hx hb dMO_isHalf_103 (lv_at hl 7 rfl) ?_
                      refine lz_ialk hx hb hK hP 4 0 rfl rfl (z := (k : Int)) k rfl (by omega) dMO_isHalf_105 ?_
                      refine lz_as (x := fo2 k) (y := (t : Int)) (ht2) ?_
                      refine lz_ialk hx hb hK hP 2 0 rfl rfl (z := (t : Int)) t rfl (by omega) dMO_isHalf_106 ?_
                      refine lv_goto (tgt := 124) hx hb dMO_isHalf_107 (by decide) ?_
                      refine lz_as (x := m2 t) (y := flp ch i (m2 t)) (flp_t (bit_0.mp c_92)) ?_
                      refine lv_istore (lv' := [(9, .int (iI (flp ch i (m2 t)))), (8, .int (iI (tix ks t s9 : Int))), (0, .ref q.mo), (1, .int (iI (e9 : Int))), (2, .int (iI (ks.length : Int))), (3, .int (iI (gs.length : Int))), (4, .int (iI (ch : Int))), (5, .int (iI (L2.length : Int))), (6, .int (iI (k : Int))), (7, .int (iI (i : Int)))]) hx hb dMO_isHalf_124 hl (by decide) rfl (fun ls hl => ?_)
                      refine lv_aload_n hx hb dMO_isHalf_126 rfl (lv_at hl 2 rfl) ?_
                      refine va_get (D := D) (ci := 7) (v := .ref q.xr) (C := nMO) (T := fMO) (N := 24) hx hb hts iwMO hown hK hP 0 rfl rfl 17 (by decide) (hts _ (List.mem_cons_of_mem _ lkMO_55)) (fun _ h9 => h9) rfl dMO_isHalf_127 ?_
                      refine lv_iload hx hb dMO_isHalf_130 (lv_at hl 1 rfl) ?_
                      refine lz_ialk hx hb hK hP 2 0 rfl rfl (z := (tix ks t s9 : Int)) (tix ks t s9) rfl (by omega) dMO_isHalf_132 ?_
                      refine lz_if_ne (tgt := 160) hx hb dMO_isHalf_133 (by decide) (by omega) (fun c_133 => ?_) (fun c_133 => ?_)
                      · refine lv_aload_n hx hb dMO_isHalf_160 rfl (lv_at hl 2 rfl) ?_
                        refine va_get (D := D) (ci := 7) (v := .ref q.xr) (C := nMO) (T := fMO) (N := 24) hx hb hts iwMO hown hK hP 0 rfl rfl 17 (by decide) (hts _ (List.mem_cons_of_mem _ lkMO_55)) (fun _ h9 => h9) rfl dMO_isHalf_161 ?_
                        refine lv_iload hx hb dMO_isHalf_164 (lv_at hl 1 rfl) ?_
                        refine lz_ialk hx hb hK hP 2 0 rfl rfl (z := (tix ks t s9 : Int)) (tix ks t s9) rfl (by omega) dMO_isHalf_166 ?_
                        refine lv_iload hx hb dMO_isHalf_167 (lv_at hl 0 rfl) ?_
                        refine lz_icmp_eq (tgt := 174) hx hb dMO_isHalf_169 (by decide) (by omega) (by omega) (fun c_169 => ?_) (fun c_169 => ?_)
                        · refine lz_iinc (lv' := [(7, .int (iI ((i : Int) + 1))), (9, .int (iI (flp ch i (m2 t)))), (8, .int (iI (tix ks t s9 : Int))), (0, .ref q.mo), (1, .int (iI (e9 : Int))), (2, .int (iI (ks.length : Int))), (3, .int (iI (gs.length : Int))), (4, .int (iI (ch : Int))), (5, .int (iI (L2.length : Int))), (6, .int (iI (k : Int)))]) hx hb dMO_isHalf_174 hl (k := 9) rfl (by decide) rfl (fun ls hl => ?_)
                          refine lv_goto (tgt := 53) hx hb dMO_isHalf_177 (by decide) ?_
                          exact ih53 (i + 1) L2 m2 fo2 (by omega) hk2 hB2 hE2 hM2 (hC2.keep hs ht1 hs1 ht3 hs3 c_169) hD2 hm2 (fun t9 h9 => by
                              rcases Nat.lt_or_ge t9 i with g9 | g9
                              · exact hT2 t9 g9
                              · obtain rfl : t9 = i := by omega
                                rcases hM2 _ hx1 with ⟨_, q9⟩ | ⟨q9, _⟩
                                · rw [hx3] at q9; exact q9
                                · omega) (by omega) _ _ (hP.sub [0, 1, 2, 3, 4] rfl) (hD.sub [0, 1, 2, 3, 4] (by decide) rfl) hS _ (lv_sub hl [3, 4, 5, 6, 7, 8, 9, 0] rfl)
                        · refine lv_iconst (v := iI (0)) hx hb dMO_isHalf_172 rfl ?_
                          exact hret H locs 0 0 173 ls 0 (m2, fo2) (Or.inr ⟨rfl, hD2.clash hG ht1 hs1 (by omega) hs3 hmt (by omega) c_169⟩) (hP.sub [0, 1, 2, 3, 4] rfl) (hD.sub [0, 1, 2, 3, 4] (by decide) rfl) hS (Nat.zero_le _) (Nat.zero_le _) dMO_isHalf_173
                      · have hnl : timesK (L2.getD k (-1)) (gs.getD i (-1)) ∉ L2 := by
                          rcases hM2 _ hx1 with ⟨q9, _⟩ | ⟨_, q9⟩
                          · omega
                          · rw [hx3] at q9; exact q9
                        have hne : timesK (L2.getD k (-1)) (gs.getD i (-1)) ≠ -1 := by rw [← hx3]; exact hG.ne (getD_mem hx1)
                        refine lv_aload_n hx hb dMO_isHalf_136 rfl (lv_at hl 2 rfl) ?_
                        refine va_get (D := D) (ci := 7) (v := .ref q.xr) (C := nMO) (T := fMO) (N := 24) hx hb hts iwMO hown hK hP 0 rfl rfl 17 (by decide) (hts _ (List.mem_cons_of_mem _ lkMO_55)) (fun _ h9 => h9) rfl dMO_isHalf_137 ?_
                        refine lv_iload hx hb dMO_isHalf_140 (lv_at hl 1 rfl) ?_
                        refine lv_iload hx hb dMO_isHalf_142 (lv_at hl 0 rfl) ?_
                        refine lz_iask hx hb hK hP hD hS 2 0 rfl rfl (z := (tix ks t s9 : Int)) (v := flp ch i (m2 t)) (tix ks t s9) rfl (by omega) dMO_isHalf_144 (fun H locs hP hD hS => ?_)
                        have hP : va_P D vwCl [(moC q cn gn ln), (q.xt, .inl (cI, 36864, .inl (zf ft))), (q.xr, .inl (cI, 200, .inl (zf (zu m2 (tix ks t s9) (flp ch i (m2 t)))))), (q.xg, .inl (cI, 16, .inl (zf fg))), (q.xo, .inl (cI, 200, .inl (zf fo2)))] H := hP
                        have hD : va_D A [(moC q cn gn ln), (q.xt, .inl (cI, 36864, .inl (zf ft))), (q.xr, .inl (cI, 200, .inl (zf (zu m2 (tix ks t s9) (flp ch i (m2 t)))))), (q.xg, .inl (cI, 16, .inl (zf fg))), (q.xo, .inl (cI, 200, .inl (zf fo2)))] := hD
                        refine lv_aload_n hx hb dMO_isHalf_145 rfl (lv_at hl 2 rfl) ?_
                        refine va_get (D := D) (ci := 7) (v := .ref q.xo) (C := nMO) (T := fMO) (N := 24) hx hb hts iwMO hown hK hP 0 rfl rfl 19 (by decide) (hts _ (List.mem_cons_of_mem _ lkMO_61)) (fun _ h9 => h9) rfl dMO_isHalf_146 ?_
                        refine lv_iload hx hb dMO_isHalf_149 (lv_at hl 7 rfl) ?_
                        refine lv_iload hx hb dMO_isHalf_151 (lv_at hl 1 rfl) ?_
                        refine lz_iask hx hb hK hP hD hS 4 0 rfl rfl (z := (L2.length : Int)) (v := (tix ks t s9 : Int)) L2.length rfl (by omega) dMO_isHalf_153 (fun H locs hP hD hS => ?_)
                        have hP : va_P D vwCl [(moC q cn gn ln), (q.xt, .inl (cI, 36864, .inl (zf ft))), (q.xr, .inl (cI, 200, .inl (zf (zu m2 (tix ks t s9) (flp ch i (m2 t)))))), (q.xg, .inl (cI, 16, .inl (zf fg))), (q.xo, .inl (cI, 200, .inl (zf (zu fo2 L2.length (tix ks t s9 : Int)))))] H := hP
                        have hD : va_D A [(moC q cn gn ln), (q.xt, .inl (cI, 36864, .inl (zf ft))), (q.xr, .inl (cI, 200, .inl (zf (zu m2 (tix ks t s9) (flp ch i (m2 t)))))), (q.xg, .inl (cI, 16, .inl (zf fg))), (q.xo, .inl (cI, 200, .inl (zf (zu fo2 L2.length (tix ks t s9 : Int)))))] := hD
                        refine lz_iinc (lv' := [(5, .int (iI ((L2.length : Int) + 1))), (9, .int (iI (flp ch i (m2 t)))), (8, .int (iI (tix ks t s9 : Int))), (0, .ref q.mo), (1, .int (iI (e9 : Int))), (2, .int (iI (ks.length : Int))), (3, .int (iI (gs.length : Int))), (4, .int (iI (ch : Int))), (6, .int (iI (k : Int))), (7, .int (iI (i : Int)))]) hx hb dMO_isHalf_154 hl (k := 7) rfl (by decide) rfl (fun ls hl => ?_)
                        refine lv_goto (tgt := 174) hx hb dMO_isHalf_157 (by decide) ?_
                        refine lz_iinc (lv' := [(7, .int (iI ((i : Int) + 1))), (5, .int (iI ((L2.length : Int) + 1))), (9, .int (iI (flp ch i (m2 t)))), (8, .int (iI (tix ks t s9 : Int))), (0, .ref q.mo), (1, .int (iI (e9 : Int))), (2, .int (iI (ks.length : Int))), (3, .int (iI (gs.length : Int))), (4, .int (iI (ch : Int))), (6, .int (iI (k : Int)))]) hx hb dMO_isHalf_174 hl (k := 9) rfl (by decide) rfl (fun ls hl => ?_)
                        refine lv_goto (tgt := 53) hx hb dMO_isHalf_177 (by decide) ?_
                        rw [show (L2.length : Int) + 1 = ((L2 ++ [timesK (L2.getD k (-1)) (gs.getD i (-1))]).length : Int) from by rw [len_snoc]; rfl] at hl
                        exact ih53 (i + 1) (L2 ++ [timesK (L2.getD k (-1)) (gs.getD i (-1))]) (zu m2 (tix ks t s9) (flp ch i (m2 t))) (zu fo2 L2.length (tix ks t s9 : Int)) (by omega) (by rw [len_snoc]; omega) (hB2.push hv (getD_mem hk2) (getD_mem (by omega)) hne hnl) (hE2.push hx1 hx3) (hM2.push hs hx1 hx3 (flp_in hmt)) (by
                            have := hC2.push hG hs hgs hE2.sub hM2 (fun j r hjr hj => by
                              rcases hjr with ⟨g1, g2⟩ | ⟨rfl, g2⟩
                              · exact hB2.2.2.2.2 j g1 _ (getD_mem g2)
                              · exact hT2 r g2) (by omega) hk2 ht1 hs1 ht3 hs3 (by rw [hx3]; exact hnl)
                            rw [hx3] at this
                            exact this) (hD2.push hG ht1 hs1 (by omega) hs3 hmt) (by rw [zu_n _ _ (fun q9 => by rw [← q9] at c_133; omega)]; exact hm2) (fun t9 h9 => by
                            rw [getD_snoc_l hk2]
                            rcases Nat.lt_or_ge t9 i with g9 | g9
                            · exact List.mem_append_left _ (hT2 t9 g9)
                            · obtain rfl : t9 = i := by omega
                              exact List.mem_append_right _ (List.mem_singleton.mpr rfl)) (by omega) _ _ (hP.sub [0, 1, 2, 3, 4] rfl) (hD.sub [0, 1, 2, 3, 4] (by decide) rfl) hS _ (lv_sub hl [4, 5, 6, 7, 8, 1, 9, 0] rfl)
              exact lp53 _ 0 L m1 fo1 (Nat.zero_le _) (by omega) hB hE hM hC hD9 hm1 (fun t h9 => absurd h9 (Nat.not_lt_zero _)) (Nat.lt_succ_self _) _ _ (hP.sub [0, 1, 2, 3, 4] rfl) (hD.sub [0, 1, 2, 3, 4] (by decide) rfl) hS _ (lv_sub hl [1, 2, 3, 4, 5, 6, 7, 0] rfl)
        exact lp43 _ 0 ([u0]) (zu m0 e9 1) (zu fo 0 (e9 : Int)) (BI.start gs) (emi.start he hu) (mk2L.start hs hz1 he hu) (fun j r t s9 h9 => by omega) (sdL.start hG hz1 he hu) (zu_s ..) (Nat.lt_succ_self _) _ _ (hP.sub [0, 1, 2, 3, 4] rfl) (hD.sub [0, 1, 2, 3, 4] (by decide) rfl) hS _ (lv_sub hl [2, 3, 4, 5, 6, 1, 0] rfl)
      · refine lv_aload_n hx hb dMO_isHalf_9 rfl (lv_at hl 0 rfl) ?_
        refine va_get (D := D) (ci := 7) (v := .ref q.xr) (C := nMO) (T := fMO) (N := 24) hx hb hts iwMO hown hK hP 0 rfl rfl 17 (by decide) (hts _ (List.mem_cons_of_mem _ lkMO_55)) (fun _ h9 => h9) rfl dMO_isHalf_10 ?_
        refine lv_iload hx hb dMO_isHalf_13 (lv_at hl 5 rfl) ?_
        refine lv_iconst (v := iI (0)) hx hb dMO_isHalf_15 rfl ?_
        refine lz_iask hx hb hK hP hD hS 2 0 rfl rfl (z := (i : Int)) (v := 0) i rfl (by omega) dMO_isHalf_16 (fun H locs hP hD hS => ?_)
        have hP : va_P D vwCl [(moC q cn gn ln), (q.xt, .inl (cI, 36864, .inl (zf ft))), (q.xr, .inl (cI, 200, .inl (zf (zu m0 i 0)))), (q.xg, .inl (cI, 16, .inl (zf fg))), (q.xo, .inl (cI, 200, .inl (zf fo)))] H := hP
        have hD : va_D A [(moC q cn gn ln), (q.xt, .inl (cI, 36864, .inl (zf ft))), (q.xr, .inl (cI, 200, .inl (zf (zu m0 i 0)))), (q.xg, .inl (cI, 16, .inl (zf fg))), (q.xo, .inl (cI, 200, .inl (zf fo)))] := hD
        refine lz_iinc (lv' := [(5, .int (iI ((i : Int) + 1))), (0, .ref q.mo), (1, .int (iI (e9 : Int))), (2, .int (iI (ks.length : Int))), (3, .int (iI (gs.length : Int))), (4, .int (iI (ch : Int)))]) hx hb dMO_isHalf_17 hl (k := 5) rfl (by decide) rfl (fun ls hl => ?_)
        refine lv_goto (tgt := 3) hx hb dMO_isHalf_20 (by decide) ?_
        exact ih3 (i + 1) (zu m0 i 0) (by omega) (fun t ht => by
            by_cases e : t = i
            · rw [e, zu_s]
            · rw [zu_n _ _ e]; exact hz0 t (by omega)) (by omega) _ _ (hP.sub [0, 1, 2, 3, 4] rfl) (hD.sub [0, 1, 2, 3, 4] (by decide) rfl) hS _ (lv_sub hl [1, 2, 3, 4, 5, 0] rfl)
  exact lp3 _ 0 mk (Nat.zero_le _) (fun t ht => absurd ht (Nat.not_lt_zero _)) (Nat.lt_succ_self _) _ _ (hP.sub [0, 1, 2, 3, 4] rfl) (hD.sub [0, 1, 2, 3, 4] (by decide) rfl) hS _ (lv_sub hl [1, 2, 3, 4, 5, 0] rfl)
