/-! Halves: written by wip/whole/genha.py -/
def rmHA_count : Room := { frames := 0, cells := 0, slots := 0, locals := 0 }
set_option maxHeartbeats 4000000 in
set_option maxRecDepth 100000 in
theorem mHA_count (l : Launch) (D : va_G) (cI cG : ClassId) (t ca9 bb : Nat) (hbb : bb < 8) : zRI l yHA_count wHA_count rmHA_count D vwCl (zT cI cG) [.ref t] [(t, .inr (4, [.ref ca9, .int (iI (bb : Int))]))] (fun z => z = ((2 ^ bb : Nat) : Int) - 1) := by
  refine zRI.of (cc := cHA_count) (maxL := 1) (rt := .int) (by decide) rfl (Nat.le_of_ble_eq_true rfl) (fun _ _ => rfl) ?_
  intro p e s m args below meth c ls Q hx hb hml hown hts hK hP hX hl hret
  have hS0 : va_S (fun _ => False) s.heap s.heap [] := va_S.rf
  have hl : lv_has ls 1 [(0, .ref t)] := hl
  refine lv_iconst (v := iI (1)) hx hb dHA_count_0 rfl ?_
  refine lv_aload_n hx hb dHA_count_1 rfl (lv_at hl 0 rfl) ?_
  refine va_get (D := D) (ci := 4) (v := .int (iI (bb : Int))) (C := nHA) (T := fHA) (N := 2) hx hb hts iwHA hown hK hP 0 rfl rfl 1 (by decide) (hts _ (List.mem_cons_of_mem _ lkHA_9)) (fun _ h9 => h9) rfl dHA_count_2 ?_
  refine lz_ishl (z := ((2 ^ bb : Nat) : Int)) hx hb dHA_count_5 (shl_ok bb hbb) ?_
  refine lv_iconst (v := iI (1)) hx hb dHA_count_6 rfl ?_
  refine lz_isub hx hb dHA_count_7 ?_
  exact hret 8 ls (((2 ^ bb : Nat) : Int) - 1) rfl dHA_count_8

def rmHA_refusedBits : Room := { frames := 0, cells := 0, slots := 0, locals := 0 }
set_option maxHeartbeats 4000000 in
set_option maxRecDepth 100000 in
theorem mHA_refusedBits (l : Launch) (D : va_G) (cI cG : ClassId) (t ca9 bb k : Nat) (hbb : bb < 8) (hk : k + 1 < 256) : zRI l yHA_refusedBits wHA_refusedBits rmHA_refusedBits D vwCl (zT cI cG) [.ref t, .int (iI (k : Int))] [(t, .inr (4, [.ref ca9, .int (iI (bb : Int))]))] (fun z => z = ((revB (k + 1) bb : Nat) : Int)) := by
  refine zRI.of (cc := cHA_refusedBits) (maxL := 4) (rt := .int) (by decide) rfl (Nat.le_of_ble_eq_true rfl) (fun _ _ => rfl) ?_
  intro p e s m args below meth c ls Q hx hb hml hown hts hK hP hX hl hret
  have hS0 : va_S (fun _ => False) s.heap s.heap [] := va_S.rf
  have hl : lv_has ls 4 [(0, .ref t), (1, .int (iI (k : Int)))] := hl
  refine lv_iconst (v := iI (0)) hx hb dHA_refusedBits_0 rfl ?_
  refine lv_istore_n (lv' := [(2, .int (iI 0)), (0, .ref t), (1, .int (iI (k : Int)))]) hx hb dHA_refusedBits_1 rfl hl (by decide) rfl (fun ls hl => ?_)
  refine lv_iconst (v := iI (0)) hx hb dHA_refusedBits_2 rfl ?_
  refine lv_istore_n (lv' := [(3, .int (iI 0)), (2, .int (iI 0)), (0, .ref t), (1, .int (iI (k : Int)))]) hx hb dHA_refusedBits_3 rfl hl (by decide) rfl (fun ls hl => ?_)
  have lp4 : ∀ (n9 : Nat) (t9 : Nat), (t9 ≤ bb) → (bb - t9) < n9 → ∀ (ls : Array Slot), lv_has ls 4 [(0, .ref t), (1, .int (iI (k : Int))), (2, .int (iI ((revB (k + 1) t9 : Nat) : Int))), (3, .int (iI (t9 : Int)))] → W p l e (headSpec wHA_refusedBits rmHA_refusedBits).room s m args below meth c s.heap [] 0 0 Q (F0 m 4 ls []) := by
    intro n9
    induction n9 with
    | zero => intro t9 ht hm; exact absurd hm (Nat.not_lt_zero _)
    | succ n9 ih4 =>
      intro t9 ht hm4 ls hl
      have hrv := revB_lt (k + 1) t9
      have hp9 := pow_le128 (t := t9) (by omega)
      refine lv_iload_n hx hb dHA_refusedBits_4 rfl (lv_at hl 3 rfl) ?_
      refine lv_aload_n hx hb dHA_refusedBits_5 rfl (lv_at hl 0 rfl) ?_
      refine va_get (D := D) (ci := 4) (v := .int (iI (bb : Int))) (C := nHA) (T := fHA) (N := 2) hx hb hts iwHA hown hK hP 0 rfl rfl 1 (by decide) (hts _ (List.mem_cons_of_mem _ lkHA_9)) (fun _ h9 => h9) rfl dHA_refusedBits_6 ?_
      refine lz_icmp_ge (tgt := 30) hx hb dHA_refusedBits_9 (by decide) (by omega) (by omega) (fun c_9 => ?_) (fun c_9 => ?_)
      · have htb : t9 = bb := by omega
        refine lv_iload_n hx hb dHA_refusedBits_30 rfl (lv_at hl 2 rfl) ?_
        exact hret 31 ls ((revB (k + 1) t9 : Nat) : Int) (by rw [htb]) dHA_refusedBits_31
      · refine lv_iload_n hx hb dHA_refusedBits_12 rfl (lv_at hl 2 rfl) ?_
        refine lv_iconst (v := iI (1)) hx hb dHA_refusedBits_13 rfl ?_
        refine lz_ishl (z := ((2 * revB (k + 1) t9 : Nat) : Int)) hx hb dHA_refusedBits_14 (shl1_ok _ (by omega)) ?_
        refine lv_iload_n hx hb dHA_refusedBits_15 rfl (lv_at hl 1 rfl) ?_
        refine lv_iconst (v := iI (1)) hx hb dHA_refusedBits_16 rfl ?_
        refine lz_iadd hx hb dHA_refusedBits_17 ?_
        refine lv_iload_n hx hb dHA_refusedBits_18 rfl (lv_at hl 3 rfl) ?_
        refine lv_iushr (v := iI ((((k + 1) / 2 ^ t9 : Nat) : Int))) hx hb dHA_refusedBits_19 (ushr_ok t9 (by omega) (k + 1) hk) ?_
        refine lv_iconst (v := iI (1)) hx hb dHA_refusedBits_20 rfl ?_
        refine lz_iand (z := (((k + 1) / 2 ^ t9 % 2 : Nat) : Int)) hx hb dHA_refusedBits_21 (and1_ok _ (Nat.lt_of_le_of_lt (Nat.div_le_self _ _) hk)) ?_
        refine lz_ior (z := ((revB (k + 1) (t9 + 1) : Nat) : Int)) hx hb dHA_refusedBits_22 (or1_ok _ (by omega) _ (Nat.mod_lt _ (by decide))) ?_
        refine lv_istore_n (lv' := [(2, .int (iI ((revB (k + 1) (t9 + 1) : Nat) : Int))), (0, .ref t), (1, .int (iI (k : Int))), (3, .int (iI (t9 : Int)))]) hx hb dHA_refusedBits_23 rfl hl (by decide) rfl (fun ls hl => ?_)
        refine lz_iinc (lv' := [(3, .int (iI ((t9 : Int) + 1))), (2, .int (iI ((revB (k + 1) (t9 + 1) : Nat) : Int))), (0, .ref t), (1, .int (iI (k : Int)))]) hx hb dHA_refusedBits_24 hl (k := 3) rfl (by decide) rfl (fun ls hl => ?_)
        refine lv_goto (tgt := 4) hx hb dHA_refusedBits_27 (by decide) ?_
        exact ih4 (t9 + 1) (by omega) (by omega) _ (lv_sub hl [2, 3, 1, 0] rfl)
  exact lp4 _ 0 (Nat.zero_le _) (Nat.lt_succ_self _) _ (lv_sub hl [2, 3, 1, 0] rfl)

def rmHA_addBit : Room := { frames := 2, cells := 0, slots := 0, locals := 54 }
set_option maxHeartbeats 4000000 in
set_option maxRecDepth 100000 in
theorem mHA_addBit (l : Launch) (D : va_G) (cI cG : ClassId) (t ca9 : Nat) (co : Nat → Int) (bb : Nat) (r a n : Nat) (f : Nat → Int) (ks : List Int) (b lf rt : Nat) (gl gr : Nat → Int) (K : List Int) (i : Nat) (h : rowOK n f ks) (hn : ks.length ≤ 192) (hG : isG ks) (hq : sqG ks K) (hH : HIv ks K co bb) (hbb : bb < 8) (hi : i < ks.length) (hci : co i = -1) : zV l yHA_addBit wHA_addBit rmHA_addBit D vwCl (zT cI cG) [.ref t, .int (iI (i : Int)), .ref r, .ref b] [(t, .inr (4, [.ref ca9, .int (iI (bb : Int))])), (ca9, .inl (cI, ks.length, .inl (zf co))), (r, .inr (5, [.ref a, .int (iI (ks.length : Int))])), (a, .inl (cI, n, .inl (zf f))), (b, .inr (1, [.ref lf, .ref rt])), (lf, .inl (cI, 9, .inl (zf gl))), (rt, .inl (cI, 9, .inl (zf gr)))] (S := ((Nat → Int) × (Nat → Int) × (Nat → Int))) (fun u => HAdd ks co u.1 bb i) (fun u => [(t, .inr (4, [.ref ca9, .int (iI ((bb : Int) + 1))])), (ca9, .inl (cI, ks.length, .inl (zf u.1))), (r, .inr (5, [.ref a, .int (iI (ks.length : Int))])), (a, .inl (cI, n, .inl (zf f))), (b, .inr (1, [.ref lf, .ref rt])), (lf, .inl (cI, 9, .inl (zf u.2.1))), (rt, .inl (cI, 9, .inl (zf u.2.2)))]) := by
  refine zV.of (cc := cHA_addBit) (maxL := 7) (by decide) rfl (Nat.le_of_ble_eq_true rfl) ?_
  intro p e s m args below meth c A ls Q hx hb hml hown hts hnm hK hD hA hAe hX hl hret H locs hP hS
  have hl : lv_has ls 7 [(0, .ref t), (1, .int (iI (i : Int))), (2, .ref r), (3, .ref b)] := hl
  have hb1 := h.1
  have hb2 := h.2.1
  have hnd := nodup_lt h.2.2.2.1
  have hkk : ∀ j, j < ks.length → kOK (ks.getD j (-1)) := fun j hj => (hG.2.2.1 _ (getD_mem hj)).1
  have hp9 := pow_le128 hbb
  have hp0 := Nat.two_pow_pos bb
  refine lv_iconst (v := iI (1)) hx hb dHA_addBit_0 rfl ?_
  refine lv_aload_n hx hb dHA_addBit_1 rfl (lv_at hl 0 rfl) ?_
  refine va_get (D := D) (ci := 4) (v := .int (iI (bb : Int))) (C := nHA) (T := fHA) (N := 2) hx hb hts iwHA hown hK hP 0 rfl rfl 1 (by decide) (hts _ (List.mem_cons_of_mem _ lkHA_9)) (fun _ h9 => h9) rfl dHA_addBit_2 ?_
  refine lz_ishl (z := ((2 ^ bb : Nat) : Int)) hx hb dHA_addBit_5 (shl_ok bb hbb) ?_
  refine lv_istore (lv' := [(4, .int (iI ((2 ^ bb : Nat) : Int))), (0, .ref t), (1, .int (iI (i : Int))), (2, .ref r), (3, .ref b)]) hx hb dHA_addBit_6 hl (by decide) rfl (fun ls hl => ?_)
  refine lv_aload_n hx hb dHA_addBit_8 rfl (lv_at hl 1 rfl) ?_
  refine lv_dup hx hb dHA_addBit_9 rfl ?_
  refine va_get (D := D) (ci := 4) (v := .int (iI (bb : Int))) (C := nHA) (T := fHA) (N := 2) hx hb hts iwHA hown hK hP 0 rfl rfl 1 (by decide) (hts _ (List.mem_cons_of_mem _ lkHA_9)) (fun _ h9 => h9) rfl dHA_addBit_10 ?_
  refine lv_iconst (v := iI (1)) hx hb dHA_addBit_13 rfl ?_
  refine lz_iadd hx hb dHA_addBit_14 ?_
  refine va_put (D := D) (ci := 4) (v := .int (iI ((bb : Int) + 1))) (ty := .int) (C := nHA) (T := fHA) (N := 2) hx hb hts iwHA tHA tkHA nmHA hown hK hP hD hS 0 rfl rfl 1 (by decide) (hts _ (List.mem_cons_of_mem _ lkHA_9)) (fun _ h9 => h9) rfl (by decide +kernel) rfl rfl (Nat.le_of_ble_eq_true rfl) dHA_addBit_15 (fun H locs hP hD hS => ?_)
  have hP : va_P D vwCl [(t, .inr (4, [.ref ca9, .int (iI ((bb : Int) + 1))])), (ca9, .inl (cI, ks.length, .inl (zf co))), (r, .inr (5, [.ref a, .int (iI (ks.length : Int))])), (a, .inl (cI, n, .inl (zf f))), (b, .inr (1, [.ref lf, .ref rt])), (lf, .inl (cI, 9, .inl (zf gl))), (rt, .inl (cI, 9, .inl (zf gr)))] H := hP
  have hD : va_D A [(t, .inr (4, [.ref ca9, .int (iI ((bb : Int) + 1))])), (ca9, .inl (cI, ks.length, .inl (zf co))), (r, .inr (5, [.ref a, .int (iI (ks.length : Int))])), (a, .inl (cI, n, .inl (zf f))), (b, .inr (1, [.ref lf, .ref rt])), (lf, .inl (cI, 9, .inl (zf gl))), (rt, .inl (cI, 9, .inl (zf gr)))] := hD
  refine lv_iconst (v := iI (0)) hx hb dHA_addBit_18 rfl ?_
  refine lv_istore (lv' := [(5, .int (iI 0)), (4, .int (iI ((2 ^ bb : Nat) : Int))), (0, .ref t), (1, .int (iI (i : Int))), (2, .ref r), (3, .ref b)]) hx hb dHA_addBit_19 hl (by decide) rfl (fun ls hl => ?_)
  have lp21 : ∀ (n9 : Nat) (x : Nat) (co1 gl1 gr1 : Nat → Int), (x ≤ ks.length) → (HAddT ks co co1 bb i x) → (ks.length - x) < n9 → ∀ (H : Heap) (locs : List Loc), va_P D vwCl [(t, .inr (4, [.ref ca9, .int (iI ((bb : Int) + 1))])), (ca9, .inl (cI, ks.length, .inl (zf co1))), (r, .inr (5, [.ref a, .int (iI (ks.length : Int))])), (a, .inl (cI, n, .inl (zf f))), (b, .inr (1, [.ref lf, .ref rt])), (lf, .inl (cI, 9, .inl (zf gl1))), (rt, .inl (cI, 9, .inl (zf gr1)))] H → va_D A [(t, .inr (4, [.ref ca9, .int (iI ((bb : Int) + 1))])), (ca9, .inl (cI, ks.length, .inl (zf co1))), (r, .inr (5, [.ref a, .int (iI (ks.length : Int))])), (a, .inl (cI, n, .inl (zf f))), (b, .inr (1, [.ref lf, .ref rt])), (lf, .inl (cI, 9, .inl (zf gl1))), (rt, .inl (cI, 9, .inl (zf gr1)))] → va_S A s.heap H locs → ∀ (ls : Array Slot), lv_has ls 7 [(0, .ref t), (1, .int (iI (i : Int))), (2, .ref r), (3, .ref b), (4, .int (iI ((2 ^ bb : Nat) : Int))), (5, .int (iI (x : Int)))] → W p l e (headSpec wHA_addBit rmHA_addBit).room s m args below meth c H locs 0 0 Q (F0 m 21 ls []) := by
    intro n9
    induction n9 with
    | zero => intro x co1 gl1 gr1 hx9 hT hm; exact absurd hm (Nat.not_lt_zero _)
    | succ n9 ih21 =>
      intro x co1 gl1 gr1 hx9 hT hm21 H locs hP hD hS ls hl
      refine lv_iload hx hb dHA_addBit_21 (lv_at hl 5 rfl) ?_
      refine lv_aload_n hx hb dHA_addBit_23 rfl (lv_at hl 0 rfl) ?_
      refine va_get (D := D) (ci := 4) (v := .ref ca9) (C := nHA) (T := fHA) (N := 2) hx hb hts iwHA hown hK hP 0 rfl rfl 0 (by decide) (hts _ (List.mem_cons_of_mem _ lkHA_21)) (fun _ h9 => h9) rfl dHA_addBit_24 ?_
      refine lz_alen hx hb hK hP 1 0 rfl rfl dHA_addBit_27 ?_
      refine lz_icmp_ge (tgt := 113) hx hb dHA_addBit_28 (by decide) (by omega) (by omega) (fun c_28 => ?_) (fun c_28 => ?_)
      · exact hret H locs 0 0 113 ls (co1, gl1, gr1) (hT.done (by omega)) (hP.sub [0, 1, 2, 3, 4, 5, 6] rfl) (hD.sub [0, 1, 2, 3, 4, 5, 6] (by decide) rfl) hS (Nat.zero_le _) (Nat.zero_le _) dHA_addBit_113
      · have hrx := hT.rng hH hbb (x := x) (by omega)
        refine lv_aload_n hx hb dHA_addBit_31 rfl (lv_at hl 0 rfl) ?_
        refine va_get (D := D) (ci := 4) (v := .ref ca9) (C := nHA) (T := fHA) (N := 2) hx hb hts iwHA hown hK hP 0 rfl rfl 0 (by decide) (hts _ (List.mem_cons_of_mem _ lkHA_21)) (fun _ h9 => h9) rfl dHA_addBit_32 ?_
        refine lv_iload hx hb dHA_addBit_35 (lv_at hl 5 rfl) ?_
        refine lz_ialk hx hb hK hP 1 0 rfl rfl (z := (x : Int)) x rfl (by omega) dHA_addBit_37 ?_
        refine lv_iconst (v := iI (-1)) hx hb dHA_addBit_38 rfl ?_
        refine lz_icmp_eq (tgt := 107) hx hb dHA_addBit_39 (by decide) (by omega) (by omega) (fun c_39 => ?_) (fun c_39 => ?_)
        · have hcx : co x = -1 := Classical.byContradiction fun q => q ((hT.1 x (by omega) q).symm.trans c_39)
          refine lz_iinc (lv' := [(5, .int (iI ((x : Int) + 1))), (0, .ref t), (1, .int (iI (i : Int))), (2, .ref r), (3, .ref b), (4, .int (iI ((2 ^ bb : Nat) : Int)))]) hx hb dHA_addBit_107 hl (k := 5) rfl (by decide) rfl (fun ls hl => ?_)
          refine lv_goto (tgt := 21) hx hb dHA_addBit_110 (by decide) ?_
          exact ih21 (x + 1) co1 gl1 gr1 (by omega) (hT.skip hcx) (by omega) _ _ (hP.sub [0, 1, 2, 3, 4, 5, 6] rfl) (hD.sub [0, 1, 2, 3, 4, 5, 6] (by decide) rfl) hS _ (lv_sub hl [1, 2, 3, 4, 5, 0] rfl)
        · refine lv_aload_n hx hb dHA_addBit_42 rfl (lv_at hl 0 rfl) ?_
          refine va_get (D := D) (ci := 4) (v := .ref ca9) (C := nHA) (T := fHA) (N := 2) hx hb hts iwHA hown hK hP 0 rfl rfl 0 (by decide) (hts _ (List.mem_cons_of_mem _ lkHA_21)) (fun _ h9 => h9) rfl dHA_addBit_43 ?_
          refine lv_iload hx hb dHA_addBit_46 (lv_at hl 5 rfl) ?_
          refine lz_ialk hx hb hK hP 1 0 rfl rfl (z := (x : Int)) x rfl (by omega) dHA_addBit_48 ?_
          refine lv_iload hx hb dHA_addBit_49 (lv_at hl 4 rfl) ?_
          refine lz_icmp_ge (tgt := 107) hx hb dHA_addBit_51 (by decide) (by omega) (by omega) (fun c_51 => ?_) (fun c_51 => ?_)
          · have hcx : co x = -1 := Classical.byContradiction fun q => by
              have h1 := hT.1 x (by omega) q
              have h2 := (hH.1 x (by omega)).resolve_left q
              omega
            refine lz_iinc (lv' := [(5, .int (iI ((x : Int) + 1))), (0, .ref t), (1, .int (iI (i : Int))), (2, .ref r), (3, .ref b), (4, .int (iI ((2 ^ bb : Nat) : Int)))]) hx hb dHA_addBit_107 hl (k := 5) rfl (by decide) rfl (fun ls hl => ?_)
            refine lv_goto (tgt := 21) hx hb dHA_addBit_110 (by decide) ?_
            exact ih21 (x + 1) co1 gl1 gr1 (by omega) (hT.skip hcx) (by omega) _ _ (hP.sub [0, 1, 2, 3, 4, 5, 6] rfl) (hD.sub [0, 1, 2, 3, 4, 5, 6] (by decide) rfl) hS _ (lv_sub hl [1, 2, 3, 4, 5, 0] rfl)
          · have hcn : co x ≠ -1 := fun q => by
              rcases hT.2.2 x (by omega) c_39 with q2 | ⟨y, _, hy, cy, _, e⟩
              · exact q2 q
              · have := (hH.1 y hy).resolve_left cy
                omega
            have hcx := (hH.1 x (by omega)).resolve_left hcn
            have hce := hT.1 x (by omega) hcn
            refine lv_aload_n hx hb dHA_addBit_54 rfl (lv_at hl 2 rfl) ?_
            refine lv_aload_n hx hb dHA_addBit_55 rfl (lv_at hl 3 rfl) ?_
            refine lv_aload_n hx hb dHA_addBit_56 rfl (lv_at hl 2 rfl) ?_
            refine lv_iload hx hb dHA_addBit_57 (lv_at hl 5 rfl) ?_
            refine zRI.back ((va_runV (As := [.int (iI (x : Int))]) (rest := [.ref b, .ref r]) ⟨hx, hb, hml, hown, hts⟩ (mRO_at l D cI cG r a n f ks (x : Int) h (by omega)) (cwV 1 hts (gT1 lkHA_30 (gT1 imRO_at (gT1 seRO_at (gT1 iniRO (gTW kcRO_at))))) rfl rfl rfl (by decide +kernel) ⟨Nat.le_of_ble_eq_true rfl, Nat.le_of_ble_eq_true rfl⟩) ⟨zRd_blind, va_recv hK hP (ci := 5) (q0 := 2) rfl rfl, zRd.at (wc := [(r, .inr (5, [.ref a, .int (iI (ks.length : Int))])), (a, .inl (cI, n, .inl (zf f)))]) hK (hP.sub (ws' := [(r, .inr (5, [.ref a, .int (iI (ks.length : Int))])), (a, .inl (cI, n, .inl (zf f)))]) [2, 3] rfl) (stF.now hX hS)⟩ rfl rfl hl.1 rfl (lv_room (Nat.le_of_ble_eq_true rfl)) dHA_addBit_59 ⟨Nat.le_of_ble_eq_true rfl, Nat.le_of_ble_eq_true rfl⟩).run) (fun z_59 q_59 => ?_)
            obtain rfl : z_59 = ks.getD x (-1) := by have q9 : z_59 = lat ks (x : Int) := q_59; rw [q9]; exact (lat_in (by omega) (by omega)).1
            refine lv_aload_n hx hb dHA_addBit_62 rfl (lv_at hl 2 rfl) ?_
            refine lv_iload_n hx hb dHA_addBit_63 rfl (lv_at hl 1 rfl) ?_
            refine zRI.back ((va_runV (As := [.int (iI (i : Int))]) (rest := [.int (iI (ks.getD x (-1))), .ref b, .ref r]) ⟨hx, hb, hml, hown, hts⟩ (mRO_at l D cI cG r a n f ks (i : Int) h (by omega)) (cwV 1 hts (gT1 lkHA_30 (gT1 imRO_at (gT1 seRO_at (gT1 iniRO (gTW kcRO_at))))) rfl rfl rfl (by decide +kernel) ⟨Nat.le_of_ble_eq_true rfl, Nat.le_of_ble_eq_true rfl⟩) ⟨zRd_blind, va_recv hK hP (ci := 5) (q0 := 2) rfl rfl, zRd.at (wc := [(r, .inr (5, [.ref a, .int (iI (ks.length : Int))])), (a, .inl (cI, n, .inl (zf f)))]) hK (hP.sub (ws' := [(r, .inr (5, [.ref a, .int (iI (ks.length : Int))])), (a, .inl (cI, n, .inl (zf f)))]) [2, 3] rfl) (stF.now hX hS)⟩ rfl rfl hl.1 rfl (lv_room (Nat.le_of_ble_eq_true rfl)) dHA_addBit_64 ⟨Nat.le_of_ble_eq_true rfl, Nat.le_of_ble_eq_true rfl⟩).run) (fun z_64 q_64 => ?_)
            obtain rfl : z_64 = ks.getD i (-1) := by have q9 : z_64 = lat ks (i : Int) := q_64; rw [q9]; exact (lat_in (by omega) (by omega)).1
            refine zI.back (va_runV (As := [.int (iI (ks.getD x (-1))), .int (iI (ks.getD i (-1)))]) (rest := [.ref r]) ⟨hx, hb, hml, hown, hts⟩ ((mBE_times l D cI cG b lf rt gl1 gr1 (ks.getD x (-1)) (ks.getD i (-1)) (hkk x (by omega)) (hkk i hi)) H.size) (cwV 2 hts (gT1 lkHA_34 (gT1 imBE_times (gT1 seBE_times (gT1 iniBE (gTW kcBE_times))))) rfl rfl rfl (by decide +kernel) ⟨Nat.le_of_ble_eq_true rfl, Nat.le_of_ble_eq_true rfl⟩) ⟨zPre_blind, va_recv hK hP (ci := 1) (q0 := 4) rfl rfl, zPre.at (wc := [(b, .inr (1, [.ref lf, .ref rt])), (lf, .inl (cI, 9, .inl (zf gl1))), (rt, .inl (cI, 9, .inl (zf gr1)))]) hK hP hD hS hA hX [4, 5, 6] (by decide) rfl⟩ rfl rfl hl.1 rfl (lv_room (Nat.le_of_ble_eq_true rfl)) dHA_addBit_67 ⟨Nat.le_of_ble_eq_true rfl, Nat.le_of_ble_eq_true rfl⟩) (wr := [(t, .inr (4, [.ref ca9, .int (iI ((bb : Int) + 1))])), (ca9, .inl (cI, ks.length, .inl (zf co1))), (r, .inr (5, [.ref a, .int (iI (ks.length : Int))])), (a, .inl (cI, n, .inl (zf f)))]) hP hD hS hA [4, 5, 6] [0, 1, 2, 3] rfl rfl (by decide) (by decide) (fun z_67 u_67 H locs q_67 hP hD hS hz_67 hk_67 => ?_)
            obtain rfl : z_67 = timesK (ks.getD x (-1)) (ks.getD i (-1)) := q_67
            have hP : va_P D vwCl [(t, .inr (4, [.ref ca9, .int (iI ((bb : Int) + 1))])), (ca9, .inl (cI, ks.length, .inl (zf co1))), (r, .inr (5, [.ref a, .int (iI (ks.length : Int))])), (a, .inl (cI, n, .inl (zf f))), (b, .inr (1, [.ref lf, .ref rt])), (lf, .inl (cI, 9, .inl (zf (rd (ks.getD x (-1)) gl1)))), (rt, .inl (cI, 9, .inl (zf (rd (ks.getD i (-1)) gr1))))] H := hP
            have hD : va_D A [(t, .inr (4, [.ref ca9, .int (iI ((bb : Int) + 1))])), (ca9, .inl (cI, ks.length, .inl (zf co1))), (r, .inr (5, [.ref a, .int (iI (ks.length : Int))])), (a, .inl (cI, n, .inl (zf f))), (b, .inr (1, [.ref lf, .ref rt])), (lf, .inl (cI, 9, .inl (zf (rd (ks.getD x (-1)) gl1)))), (rt, .inl (cI, 9, .inl (zf (rd (ks.getD i (-1)) gr1))))] := hD
            refine zRI.back ((va_runV (As := [.int (iI (timesK (ks.getD x (-1)) (ks.getD i (-1))))]) (rest := []) ⟨hx, hb, hml, hown, hts⟩ (mRO_indexOf l D cI cG r a n f ks (timesK (ks.getD x (-1)) (ks.getD i (-1))) h (by have := times_bd (ks.getD x (-1)) (ks.getD i (-1)); omega)) (cwV 1 hts (gT1 lkHA_69 (gT1 imRO_indexOf (gT1 seRO_indexOf (gT1 iniRO (gTW kcRO_indexOf))))) rfl rfl rfl (by decide +kernel) ⟨Nat.le_of_ble_eq_true rfl, Nat.le_of_ble_eq_true rfl⟩) ⟨zRd_blind, va_recv hK hP (ci := 5) (q0 := 2) rfl rfl, zRd.at (wc := [(r, .inr (5, [.ref a, .int (iI (ks.length : Int))])), (a, .inl (cI, n, .inl (zf f)))]) hK (hP.sub (ws' := [(r, .inr (5, [.ref a, .int (iI (ks.length : Int))])), (a, .inl (cI, n, .inl (zf f)))]) [2, 3] rfl) (stF.now hX hS)⟩ rfl rfl hl.1 rfl (lv_room (Nat.le_of_ble_eq_true rfl)) dHA_addBit_70 ⟨Nat.le_of_ble_eq_true rfl, Nat.le_of_ble_eq_true rfl⟩).run) (fun z_70 q_70 => ?_)
            have q_70 : lix ks (timesK (ks.getD x (-1)) (ks.getD i (-1))) z_70 := q_70
            obtain ⟨k9, hk9, ek9, rfl⟩ : ∃ k9 : Nat, k9 < ks.length ∧ ks.getD k9 (-1) = timesK (ks.getD x (-1)) (ks.getD i (-1)) ∧ z_70 = (k9 : Int) := by
              rcases q_70 with ⟨_, q1, q2, q3⟩ | ⟨q, _⟩
              · exact ⟨z_70.toNat, by omega, q3, by omega⟩
              · exact absurd (hG.2.2.2 _ (getD_mem (by omega)) _ (getD_mem (by omega))) q
            refine lv_istore (lv' := [(6, .int (iI (k9 : Int))), (0, .ref t), (1, .int (iI (i : Int))), (2, .ref r), (3, .ref b), (4, .int (iI ((2 ^ bb : Nat) : Int))), (5, .int (iI (x : Int)))]) hx hb dHA_addBit_73 hl (by decide) rfl (fun ls hl => ?_)
            refine lv_iload hx hb dHA_addBit_75 (lv_at hl 0 rfl) ?_
            refine lz_if_lt (tgt := 107) hx hb dHA_addBit_77 (by decide) (by omega) (fun c_77 => ?_) (fun c_77 => ?_)
            · exact absurd c_77 (by omega)
            · refine lv_iload hx hb dHA_addBit_80 (lv_at hl 0 rfl) ?_
              refine lv_aload_n hx hb dHA_addBit_82 rfl (lv_at hl 1 rfl) ?_
              refine va_get (D := D) (ci := 4) (v := .ref ca9) (C := nHA) (T := fHA) (N := 2) hx hb hts iwHA hown hK hP 0 rfl rfl 0 (by decide) (hts _ (List.mem_cons_of_mem _ lkHA_21)) (fun _ h9 => h9) rfl dHA_addBit_83 ?_
              refine lz_alen hx hb hK hP 1 0 rfl rfl dHA_addBit_86 ?_
              refine lz_icmp_ge (tgt := 107) hx hb dHA_addBit_87 (by decide) (by omega) (by omega) (fun c_87 => ?_) (fun c_87 => ?_)
              · exact absurd c_87 (by omega)
              · refine lv_aload_n hx hb dHA_addBit_90 rfl (lv_at hl 1 rfl) ?_
                refine va_get (D := D) (ci := 4) (v := .ref ca9) (C := nHA) (T := fHA) (N := 2) hx hb hts iwHA hown hK hP 0 rfl rfl 0 (by decide) (hts _ (List.mem_cons_of_mem _ lkHA_21)) (fun _ h9 => h9) rfl dHA_addBit_91 ?_
                refine lv_iload hx hb dHA_addBit_94 (lv_at hl 0 rfl) ?_
                refine lv_aload_n hx hb dHA_addBit_96 rfl (lv_at hl 1 rfl) ?_
                refine va_get (D := D) (ci := 4) (v := .ref ca9) (C := nHA) (T := fHA) (N := 2) hx hb hts iwHA hown hK hP 0 rfl rfl 0 (by decide) (hts _ (List.mem_cons_of_mem _ lkHA_21)) (fun _ h9 => h9) rfl dHA_addBit_97 ?_
                refine lv_iload hx hb dHA_addBit_100 (lv_at hl 6 rfl) ?_
                refine lz_ialk hx hb hK hP 1 0 rfl rfl (z := (x : Int)) x rfl (by omega) dHA_addBit_102 ?_
                refine lz_as (x := co1 x) (y := co x) (hce) ?_
                refine lv_iload hx hb dHA_addBit_103 (lv_at hl 5 rfl) ?_
                refine lz_ior (z := co x + ((2 ^ bb : Nat) : Int)) hx hb dHA_addBit_105 ((by rw [show co x = (((co x).toNat : Nat) : Int) by omega, or_ok bb hbb _ (by omega) hcx.2]; congr 1)) ?_
                refine lz_iask hx hb hK hP hD hS 1 0 rfl rfl (z := (k9 : Int)) (v := co x + ((2 ^ bb : Nat) : Int)) k9 rfl (by omega) dHA_addBit_106 (fun H locs hP hD hS => ?_)
                have hP : va_P D vwCl [(t, .inr (4, [.ref ca9, .int (iI ((bb : Int) + 1))])), (ca9, .inl (cI, ks.length, .inl (zf (zu co1 k9 (co x + ((2 ^ bb : Nat) : Int)))))), (r, .inr (5, [.ref a, .int (iI (ks.length : Int))])), (a, .inl (cI, n, .inl (zf f))), (b, .inr (1, [.ref lf, .ref rt])), (lf, .inl (cI, 9, .inl (zf (rd (ks.getD x (-1)) gl1)))), (rt, .inl (cI, 9, .inl (zf (rd (ks.getD i (-1)) gr1))))] H := hP
                have hD : va_D A [(t, .inr (4, [.ref ca9, .int (iI ((bb : Int) + 1))])), (ca9, .inl (cI, ks.length, .inl (zf (zu co1 k9 (co x + ((2 ^ bb : Nat) : Int)))))), (r, .inr (5, [.ref a, .int (iI (ks.length : Int))])), (a, .inl (cI, n, .inl (zf f))), (b, .inr (1, [.ref lf, .ref rt])), (lf, .inl (cI, 9, .inl (zf (rd (ks.getD x (-1)) gl1)))), (rt, .inl (cI, 9, .inl (zf (rd (ks.getD i (-1)) gr1))))] := hD
                refine lz_iinc (lv' := [(5, .int (iI ((x : Int) + 1))), (6, .int (iI (k9 : Int))), (0, .ref t), (1, .int (iI (i : Int))), (2, .ref r), (3, .ref b), (4, .int (iI ((2 ^ bb : Nat) : Int)))]) hx hb dHA_addBit_107 hl (k := 6) rfl (by decide) rfl (fun ls hl => ?_)
                refine lv_goto (tgt := 21) hx hb dHA_addBit_110 (by decide) ?_
                exact ih21 (x + 1) (zu co1 k9 (co x + ((2 ^ bb : Nat) : Int))) (rd (ks.getD x (-1)) gl1) (rd (ks.getD i (-1)) gr1) (by omega) (hT.step hG hnd hq hH hi hci (by omega) hk9 hcn ek9.symm) (by omega) _ _ (hP.sub [0, 1, 2, 3, 4, 5, 6] rfl) (hD.sub [0, 1, 2, 3, 4, 5, 6] (by decide) rfl) hS _ (lv_sub hl [2, 3, 4, 5, 6, 0] rfl)
  exact lp21 _ 0 co gl gr (Nat.zero_le _) (HAddT.start ks co bb i) (Nat.lt_succ_self _) _ _ (hP.sub [0, 1, 2, 3, 4, 5, 6] rfl) (hD.sub [0, 1, 2, 3, 4, 5, 6] (by decide) rfl) hS _ (lv_sub hl [2, 3, 4, 5, 1, 0] rfl)

def rmHA_init : Room := { frames := 4, cells := 1, slots := 192, locals := 131 }
set_option maxHeartbeats 4000000 in
set_option maxRecDepth 100000 in
theorem mHA_init (l : Launch) (D : va_G) (cI cG : ClassId) (t : Nat) (r a n : Nat) (f : Nat → Int) (ks : List Int) (cl b lf rt fr fa ca ge : Nat) (fs : Int) (ff fc : Nat → Int) (cc : Int) (fg : Nat → Int) (gc : Int) (gl gr : Nat → Int) (K0 : List Int) (h : rowOK n f ks) (hn : ks.length ≤ 192) (hG : isG ks) (hr0 : rowOK 192 ff K0) (hfs0 : fs = (K0.length : Int)) : zV l yHA_init wHA_init rmHA_init D vwCl (zT cI cG) [.ref t, .ref r, .ref b, .ref cl] [(t, .inr (4, [.null, .int (iI 0)])), (r, .inr (5, [.ref a, .int (iI (ks.length : Int))])), (a, .inl (cI, n, .inl (zf f))), (cl, .inr (2, [.ref b, .ref fr, .ref ca, .int (iI cc), .ref ge, .int (iI gc)])), (b, .inr (1, [.ref lf, .ref rt])), (lf, .inl (cI, 9, .inl (zf gl))), (rt, .inl (cI, 9, .inl (zf gr))), (fr, .inr (5, [.ref fa, .int (iI fs)])), (fa, .inl (cI, 192, .inl (zf ff))), (ca, .inl (cI, 192, .inl (zf fc))), (ge, .inl (cI, 10, .inl (zf fg)))] (S := (Nat × (Nat → Int) × Int × CS)) (fun u => (∃ K bb, sqG ks K ∧ HIv ks K u.2.1 bb ∧ (∀ x, x < ks.length → u.2.1 x ≠ -1) ∧ u.2.2.1 = (bb : Int) ∧ bb < 8) ∧ ∃ K, rowOK 192 u.2.2.2.2.1 K ∧ u.2.2.2.1 = (K.length : Int)) (fun u => [(t, .inr (4, [.ref u.1, .int (iI u.2.2.1)])), (u.1, .inl (cI, ks.length, .inl (zf u.2.1))), (r, .inr (5, [.ref a, .int (iI (ks.length : Int))])), (a, .inl (cI, n, .inl (zf f))), (cl, .inr (2, [.ref b, .ref fr, .ref ca, .int (iI u.2.2.2.2.2.2.1), .ref ge, .int (iI u.2.2.2.2.2.2.2.2.1)])), (b, .inr (1, [.ref lf, .ref rt])), (lf, .inl (cI, 9, .inl (zf u.2.2.2.2.2.2.2.2.2.1))), (rt, .inl (cI, 9, .inl (zf u.2.2.2.2.2.2.2.2.2.2))), (fr, .inr (5, [.ref fa, .int (iI u.2.2.2.1)])), (fa, .inl (cI, 192, .inl (zf u.2.2.2.2.1))), (ca, .inl (cI, 192, .inl (zf u.2.2.2.2.2.1))), (ge, .inl (cI, 10, .inl (zf u.2.2.2.2.2.2.2.1)))]) := by
  refine zV.of (cc := cHA_init) (maxL := 5) (by decide) rfl (Nat.le_of_ble_eq_true rfl) ?_
  intro p e s m args below meth c A ls Q hx hb hml hown hts hnm hK hD hA hAe hX hl hret H locs hP hS
  have hl : lv_has ls 5 [(0, .ref t), (1, .ref r), (2, .ref b), (3, .ref cl)] := hl
  have hb1 := h.1
  have hb2 := h.2.1
  have hnd := nodup_lt h.2.2.2.1
  have hgen := hG.gen h.2.2.2.1 hn
  have hkk : ∀ j, j < ks.length → kOK (ks.getD j (-1)) := fun j hj => (hG.2.2.1 _ (getD_mem hj)).1
  refine lv_aload_n hx hb dHA_init_0 rfl (lv_at hl 0 rfl) ?_
  refine W.objInit hx hb hown (hts _ (List.mem_cons_of_mem _ lkHA_3)) (hts _ (List.mem_cons_of_mem _ imJO_init)) (hts _ (List.mem_cons_of_mem _ kcJO_init)) rfl (by rw [hml]; exact hl.1) rfl dHA_init_1 (Nat.le_of_ble_eq_true rfl) (Nat.le_of_ble_eq_true rfl) ?_
  refine W.eq (g2 := F0 m 4 ls []) rfl ?_
  refine lv_aload_n hx hb dHA_init_4 rfl (lv_at hl 0 rfl) ?_
  refine lv_iconst (v := iI (0)) hx hb dHA_init_5 rfl ?_
  refine va_put (D := D) (ci := 4) (v := .int (iI 0)) (ty := .int) (C := nHA) (T := fHA) (N := 2) hx hb hts iwHA tHA tkHA nmHA hown hK hP hD hS 0 rfl rfl 1 (by decide) (hts _ (List.mem_cons_of_mem _ lkHA_9)) (fun _ h9 => h9) rfl (by decide +kernel) rfl rfl (Nat.le_of_ble_eq_true rfl) dHA_init_6 (fun H locs hP hD hS => ?_)
  have hP : va_P D vwCl [(t, .inr (4, [.null, .int (iI 0)])), (r, .inr (5, [.ref a, .int (iI (ks.length : Int))])), (a, .inl (cI, n, .inl (zf f))), (cl, .inr (2, [.ref b, .ref fr, .ref ca, .int (iI cc), .ref ge, .int (iI gc)])), (b, .inr (1, [.ref lf, .ref rt])), (lf, .inl (cI, 9, .inl (zf gl))), (rt, .inl (cI, 9, .inl (zf gr))), (fr, .inr (5, [.ref fa, .int (iI fs)])), (fa, .inl (cI, 192, .inl (zf ff))), (ca, .inl (cI, 192, .inl (zf fc))), (ge, .inl (cI, 10, .inl (zf fg)))] H := hP
  have hD : va_D A [(t, .inr (4, [.null, .int (iI 0)])), (r, .inr (5, [.ref a, .int (iI (ks.length : Int))])), (a, .inl (cI, n, .inl (zf f))), (cl, .inr (2, [.ref b, .ref fr, .ref ca, .int (iI cc), .ref ge, .int (iI gc)])), (b, .inr (1, [.ref lf, .ref rt])), (lf, .inl (cI, 9, .inl (zf gl))), (rt, .inl (cI, 9, .inl (zf gr))), (fr, .inr (5, [.ref fa, .int (iI fs)])), (fa, .inl (cI, 192, .inl (zf ff))), (ca, .inl (cI, 192, .inl (zf fc))), (ge, .inl (cI, 10, .inl (zf fg)))] := hD
  refine lv_aload_n hx hb dHA_init_9 rfl (lv_at hl 0 rfl) ?_
  refine lv_aload_n hx hb dHA_init_10 rfl (lv_at hl 1 rfl) ?_
  refine zRI.back ((va_runV (As := []) (rest := [.ref t]) ⟨hx, hb, hml, hown, hts⟩ (mRO_size l D cI cG r a (ks.length : Int)) (cwV 0 hts (gT1 lkHA_15 (gT1 imRO_size (gT1 seRO_size (gT1 iniRO (gTW kcRO_size))))) rfl rfl rfl (by decide +kernel) ⟨Nat.le_of_ble_eq_true rfl, Nat.le_of_ble_eq_true rfl⟩) ⟨zRd_blind, va_recv hK hP (ci := 5) (q0 := 1) rfl rfl, zRd.at (wc := [(r, .inr (5, [.ref a, .int (iI (ks.length : Int))]))]) hK (hP.sub (ws' := [(r, .inr (5, [.ref a, .int (iI (ks.length : Int))]))]) [1] rfl) (stF.now hX hS)⟩ rfl rfl hl.1 rfl (lv_room (Nat.le_of_ble_eq_true rfl)) dHA_init_11 ⟨Nat.le_of_ble_eq_true rfl, Nat.le_of_ble_eq_true rfl⟩).run) (fun z_11 q_11 => ?_)
  obtain rfl : z_11 = (ks.length : Int) := q_11
  refine lz_newa hx hb (hts _ (List.mem_cons_of_mem _ ac_int)) hK hP hD hS hA 0 rfl (N := ks.length) rfl (by omega) (Nat.le_of_ble_eq_true rfl) (by show 0 + ks.length ≤ 192; omega) dHA_init_14 (fun ca9 H hP hD hS => ?_)
  refine W.widen (k := 1) (n := 192) (by omega) (by omega) ?_
  have hP : va_P D vwCl [(t, .inr (4, [.null, .int (iI 0)])), (r, .inr (5, [.ref a, .int (iI (ks.length : Int))])), (a, .inl (cI, n, .inl (zf f))), (cl, .inr (2, [.ref b, .ref fr, .ref ca, .int (iI cc), .ref ge, .int (iI gc)])), (b, .inr (1, [.ref lf, .ref rt])), (lf, .inl (cI, 9, .inl (zf gl))), (rt, .inl (cI, 9, .inl (zf gr))), (fr, .inr (5, [.ref fa, .int (iI fs)])), (fa, .inl (cI, 192, .inl (zf ff))), (ca, .inl (cI, 192, .inl (zf fc))), (ge, .inl (cI, 10, .inl (zf fg))), (ca9, .inl (cI, ks.length, .inl (zf (fun _ => 0))))] H := hP
  have hD : va_D A [(t, .inr (4, [.null, .int (iI 0)])), (r, .inr (5, [.ref a, .int (iI (ks.length : Int))])), (a, .inl (cI, n, .inl (zf f))), (cl, .inr (2, [.ref b, .ref fr, .ref ca, .int (iI cc), .ref ge, .int (iI gc)])), (b, .inr (1, [.ref lf, .ref rt])), (lf, .inl (cI, 9, .inl (zf gl))), (rt, .inl (cI, 9, .inl (zf gr))), (fr, .inr (5, [.ref fa, .int (iI fs)])), (fa, .inl (cI, 192, .inl (zf ff))), (ca, .inl (cI, 192, .inl (zf fc))), (ge, .inl (cI, 10, .inl (zf fg))), (ca9, .inl (cI, ks.length, .inl (zf (fun _ => 0))))] := hD
  refine va_putF (D := D) (ci := 4) (v := .ref ca9) (ty := .array .int) (C := nHA) (T := fHA) (N := 2) hx hb hts iwHA tHA tkHA nmHA hown hK hP hD hS 0 rfl rfl 0 (by decide) (hts _ (List.mem_cons_of_mem _ lkHA_21)) (fun _ h9 => h9) rfl hnm rfl (by decide +kernel) rfl rfl (Nat.le_of_ble_eq_true rfl) dHA_init_16 (fun H locs hP hD hS => ?_)
  have hP : va_P D vwCl [(t, .inr (4, [.ref ca9, .int (iI 0)])), (r, .inr (5, [.ref a, .int (iI (ks.length : Int))])), (a, .inl (cI, n, .inl (zf f))), (cl, .inr (2, [.ref b, .ref fr, .ref ca, .int (iI cc), .ref ge, .int (iI gc)])), (b, .inr (1, [.ref lf, .ref rt])), (lf, .inl (cI, 9, .inl (zf gl))), (rt, .inl (cI, 9, .inl (zf gr))), (fr, .inr (5, [.ref fa, .int (iI fs)])), (fa, .inl (cI, 192, .inl (zf ff))), (ca, .inl (cI, 192, .inl (zf fc))), (ge, .inl (cI, 10, .inl (zf fg))), (ca9, .inl (cI, ks.length, .inl (zf (fun _ => 0))))] H := hP
  have hD : va_D A [(t, .inr (4, [.ref ca9, .int (iI 0)])), (r, .inr (5, [.ref a, .int (iI (ks.length : Int))])), (a, .inl (cI, n, .inl (zf f))), (cl, .inr (2, [.ref b, .ref fr, .ref ca, .int (iI cc), .ref ge, .int (iI gc)])), (b, .inr (1, [.ref lf, .ref rt])), (lf, .inl (cI, 9, .inl (zf gl))), (rt, .inl (cI, 9, .inl (zf gr))), (fr, .inr (5, [.ref fa, .int (iI fs)])), (fa, .inl (cI, 192, .inl (zf ff))), (ca, .inl (cI, 192, .inl (zf fc))), (ge, .inl (cI, 10, .inl (zf fg))), (ca9, .inl (cI, ks.length, .inl (zf (fun _ => 0))))] := hD
  refine lv_aload_n hx hb dHA_init_19 rfl (lv_at hl 3 rfl) ?_
  refine zV.back (va_runV (As := []) (rest := []) ⟨hx, hb, hml, hown, hts⟩ ((mCL_start l D cI cG cl b lf rt fr fa ca ge fs ff fc cc fg gc gl gr K0 hr0 hfs0) H.size) (cwV 0 hts (gT1 lkHA_25 (gT1 imCL_start (gT1 seCL_start (gT1 iniCL (gTW kcCL_start))))) rfl rfl rfl (by decide +kernel) ⟨Nat.le_of_ble_eq_true rfl, Nat.le_of_ble_eq_true rfl⟩) ⟨zPre_blind, va_recv hK hP (ci := 2) (q0 := 3) rfl rfl, zPre.at (wc := [(cl, .inr (2, [.ref b, .ref fr, .ref ca, .int (iI cc), .ref ge, .int (iI gc)])), (b, .inr (1, [.ref lf, .ref rt])), (lf, .inl (cI, 9, .inl (zf gl))), (rt, .inl (cI, 9, .inl (zf gr))), (fr, .inr (5, [.ref fa, .int (iI fs)])), (fa, .inl (cI, 192, .inl (zf ff))), (ca, .inl (cI, 192, .inl (zf fc))), (ge, .inl (cI, 10, .inl (zf fg)))]) hK hP hD hS hA hX [3, 4, 5, 6, 7, 8, 9, 10] (by decide) rfl⟩ rfl rfl hl.1 rfl (lv_room (Nat.le_of_ble_eq_true rfl)) dHA_init_20 ⟨Nat.le_of_ble_eq_true rfl, Nat.le_of_ble_eq_true rfl⟩) (wr := [(t, .inr (4, [.ref ca9, .int (iI 0)])), (r, .inr (5, [.ref a, .int (iI (ks.length : Int))])), (a, .inl (cI, n, .inl (zf f))), (ca9, .inl (cI, ks.length, .inl (zf (fun _ => 0))))]) hP hD hS hA [3, 4, 5, 6, 7, 8, 9, 10] [0, 1, 2, 11] rfl rfl (by decide) (by decide) (fun u_20 H locs q_20 hP hD hS hz_20 hk_20 => ?_)
  obtain ⟨fs1, ff1, fc1, cc1, fg1, gc1, gl1, gr1⟩ := u_20
  have q_20 : CSt fs1 ff1 fc1 cc1 fg1 gc1 [u0] [u0] [] := q_20
  have hP : va_P D vwCl [(t, .inr (4, [.ref ca9, .int (iI 0)])), (r, .inr (5, [.ref a, .int (iI (ks.length : Int))])), (a, .inl (cI, n, .inl (zf f))), (ca9, .inl (cI, ks.length, .inl (zf (fun _ => 0)))), (cl, .inr (2, [.ref b, .ref fr, .ref ca, .int (iI cc1), .ref ge, .int (iI gc1)])), (b, .inr (1, [.ref lf, .ref rt])), (lf, .inl (cI, 9, .inl (zf gl1))), (rt, .inl (cI, 9, .inl (zf gr1))), (fr, .inr (5, [.ref fa, .int (iI fs1)])), (fa, .inl (cI, 192, .inl (zf ff1))), (ca, .inl (cI, 192, .inl (zf fc1))), (ge, .inl (cI, 10, .inl (zf fg1)))] H := hP
  have hD : va_D A [(t, .inr (4, [.ref ca9, .int (iI 0)])), (r, .inr (5, [.ref a, .int (iI (ks.length : Int))])), (a, .inl (cI, n, .inl (zf f))), (ca9, .inl (cI, ks.length, .inl (zf (fun _ => 0)))), (cl, .inr (2, [.ref b, .ref fr, .ref ca, .int (iI cc1), .ref ge, .int (iI gc1)])), (b, .inr (1, [.ref lf, .ref rt])), (lf, .inl (cI, 9, .inl (zf gl1))), (rt, .inl (cI, 9, .inl (zf gr1))), (fr, .inr (5, [.ref fa, .int (iI fs1)])), (fa, .inl (cI, 192, .inl (zf ff1))), (ca, .inl (cI, 192, .inl (zf fc1))), (ge, .inl (cI, 10, .inl (zf fg1)))] := hD
  refine lv_iconst (v := iI (0)) hx hb dHA_init_23 rfl ?_
  refine lv_istore (lv' := [(4, .int (iI 0)), (0, .ref t), (1, .ref r), (2, .ref b), (3, .ref cl)]) hx hb dHA_init_24 hl (by decide) rfl (fun ls hl => ?_)
  have lp26 : ∀ (n9 : Nat) (i : Nat) (fs2 : Int) (ff2 fc2 : Nat → Int) (cc2 : Int) (fg2 : Nat → Int) (gc2 : Int) (gl2 gr2 : Nat → Int) (K cm gs : List Int), (i ≤ ks.length) → (CSt fs2 ff2 fc2 cc2 fg2 gc2 K cm gs) → (CIv K cm gs) → (∀ a ∈ gs, a ∈ ks) → (∀ a ∈ gs, ∃ y ∈ ks, a = timesK y y) → (∀ j, j < i → timesK (ks.getD j (-1)) (ks.getD j (-1)) ∈ K) → (ks.length - i) < n9 → ∀ (H : Heap) (locs : List Loc), va_P D vwCl [(t, .inr (4, [.ref ca9, .int (iI 0)])), (ca9, .inl (cI, ks.length, .inl (zf (fun _ => 0)))), (r, .inr (5, [.ref a, .int (iI (ks.length : Int))])), (a, .inl (cI, n, .inl (zf f))), (cl, .inr (2, [.ref b, .ref fr, .ref ca, .int (iI cc2), .ref ge, .int (iI gc2)])), (b, .inr (1, [.ref lf, .ref rt])), (lf, .inl (cI, 9, .inl (zf gl2))), (rt, .inl (cI, 9, .inl (zf gr2))), (fr, .inr (5, [.ref fa, .int (iI fs2)])), (fa, .inl (cI, 192, .inl (zf ff2))), (ca, .inl (cI, 192, .inl (zf fc2))), (ge, .inl (cI, 10, .inl (zf fg2)))] H → va_D A [(t, .inr (4, [.ref ca9, .int (iI 0)])), (ca9, .inl (cI, ks.length, .inl (zf (fun _ => 0)))), (r, .inr (5, [.ref a, .int (iI (ks.length : Int))])), (a, .inl (cI, n, .inl (zf f))), (cl, .inr (2, [.ref b, .ref fr, .ref ca, .int (iI cc2), .ref ge, .int (iI gc2)])), (b, .inr (1, [.ref lf, .ref rt])), (lf, .inl (cI, 9, .inl (zf gl2))), (rt, .inl (cI, 9, .inl (zf gr2))), (fr, .inr (5, [.ref fa, .int (iI fs2)])), (fa, .inl (cI, 192, .inl (zf ff2))), (ca, .inl (cI, 192, .inl (zf fc2))), (ge, .inl (cI, 10, .inl (zf fg2)))] → va_S A s.heap H locs → ∀ (ls : Array Slot), lv_has ls 5 [(0, .ref t), (1, .ref r), (2, .ref b), (3, .ref cl), (4, .int (iI (i : Int)))] → W p l e (headSpec wHA_init rmHA_init).room s m args below meth c H locs 1 192 Q (F0 m 26 ls []) := by
    intro n9
    induction n9 with
    | zero => intro i fs2 ff2 fc2 cc2 fg2 gc2 gl2 gr2 K cm gs hi hC hV hgs hsqs hKi hm; exact absurd hm (Nat.not_lt_zero _)
    | succ n9 ih26 =>
      intro i fs2 ff2 fc2 cc2 fg2 gc2 gl2 gr2 K cm gs hi hC hV hgs hsqs hKi hm26 H locs hP hD hS ls hl
      refine lv_iload hx hb dHA_init_26 (lv_at hl 4 rfl) ?_
      refine lv_aload_n hx hb dHA_init_28 rfl (lv_at hl 0 rfl) ?_
      refine va_get (D := D) (ci := 4) (v := .ref ca9) (C := nHA) (T := fHA) (N := 2) hx hb hts iwHA hown hK hP 0 rfl rfl 0 (by decide) (hts _ (List.mem_cons_of_mem _ lkHA_21)) (fun _ h9 => h9) rfl dHA_init_29 ?_
      refine lz_alen hx hb hK hP 1 0 rfl rfl dHA_init_32 ?_
      refine lz_icmp_ge (tgt := 63) hx hb dHA_init_33 (by decide) (by omega) (by omega) (fun c_33 => ?_) (fun c_33 => ?_)
      · have hsq : sqG ks K := ⟨hV.2.2.1.isG hV.2.2.2.2.2.1, fun x hx9 => (hV.2.2.1.2.2.1 x).mp hx9 (fun x => x ∈ ks) hG.2.1 (fun y a hy ha _ => hG.2.2.2 y hy a (hgs a ha)), fun x hx9 => by
          obtain ⟨j, hj, rfl⟩ := mem_getD hx9
          exact hKi j (by omega), gs, hsqs, fun x hx9 => (hV.2.2.1.2.2.1 x).mp hx9⟩
        obtain rfl : fs2 = (K.length : Int) := hC.2.1
        refine lv_iconst (v := iI (0)) hx hb dHA_init_63 rfl ?_
        refine lv_istore (lv' := [(4, .int (iI 0)), (0, .ref t), (1, .ref r), (2, .ref b), (3, .ref cl)]) hx hb dHA_init_64 hl (by decide) rfl (fun ls hl => ?_)
        have lp66 : ∀ (n9 : Nat) (j : Nat) (co3 : Nat → Int), (j ≤ ks.length) → (∀ x, x < j → (ks.getD x (-1) ∈ K ∧ co3 x = 0) ∨ (ks.getD x (-1) ∉ K ∧ co3 x = -1)) → (ks.length - j) < n9 → ∀ (H : Heap) (locs : List Loc), va_P D vwCl [(t, .inr (4, [.ref ca9, .int (iI 0)])), (ca9, .inl (cI, ks.length, .inl (zf co3))), (r, .inr (5, [.ref a, .int (iI (ks.length : Int))])), (a, .inl (cI, n, .inl (zf f))), (cl, .inr (2, [.ref b, .ref fr, .ref ca, .int (iI cc2), .ref ge, .int (iI gc2)])), (b, .inr (1, [.ref lf, .ref rt])), (lf, .inl (cI, 9, .inl (zf gl2))), (rt, .inl (cI, 9, .inl (zf gr2))), (fr, .inr (5, [.ref fa, .int (iI (K.length : Int))])), (fa, .inl (cI, 192, .inl (zf ff2))), (ca, .inl (cI, 192, .inl (zf fc2))), (ge, .inl (cI, 10, .inl (zf fg2)))] H → va_D A [(t, .inr (4, [.ref ca9, .int (iI 0)])), (ca9, .inl (cI, ks.length, .inl (zf co3))), (r, .inr (5, [.ref a, .int (iI (ks.length : Int))])), (a, .inl (cI, n, .inl (zf f))), (cl, .inr (2, [.ref b, .ref fr, .ref ca, .int (iI cc2), .ref ge, .int (iI gc2)])), (b, .inr (1, [.ref lf, .ref rt])), (lf, .inl (cI, 9, .inl (zf gl2))), (rt, .inl (cI, 9, .inl (zf gr2))), (fr, .inr (5, [.ref fa, .int (iI (K.length : Int))])), (fa, .inl (cI, 192, .inl (zf ff2))), (ca, .inl (cI, 192, .inl (zf fc2))), (ge, .inl (cI, 10, .inl (zf fg2)))] → va_S A s.heap H locs → ∀ (ls : Array Slot), lv_has ls 5 [(0, .ref t), (1, .ref r), (2, .ref b), (3, .ref cl), (4, .int (iI (j : Int)))] → W p l e (headSpec wHA_init rmHA_init).room s m args below meth c H locs 1 192 Q (F0 m 66 ls []) := by
          intro n9
          induction n9 with
          | zero => intro j co3 hj hco hm; exact absurd hm (Nat.not_lt_zero _)
          | succ n9 ih66 =>
            intro j co3 hj hco hm66 H locs hP hD hS ls hl
            refine lv_iload hx hb dHA_init_66 (lv_at hl 4 rfl) ?_
            refine lv_aload_n hx hb dHA_init_68 rfl (lv_at hl 0 rfl) ?_
            refine va_get (D := D) (ci := 4) (v := .ref ca9) (C := nHA) (T := fHA) (N := 2) hx hb hts iwHA hown hK hP 0 rfl rfl 0 (by decide) (hts _ (List.mem_cons_of_mem _ lkHA_21)) (fun _ h9 => h9) rfl dHA_init_69 ?_
            refine lz_alen hx hb hK hP 1 0 rfl rfl dHA_init_72 ?_
            refine lz_icmp_ge (tgt := 110) hx hb dHA_init_73 (by decide) (by omega) (by omega) (fun c_73 => ?_) (fun c_73 => ?_)
            · have hH0 : HIv ks K co3 0 := HIv.start hG hsq (fun x hx9 => hco x (by omega))
              refine lv_iconst (v := iI (0)) hx hb dHA_init_110 rfl ?_
              refine lv_istore (lv' := [(4, .int (iI 0)), (0, .ref t), (1, .ref r), (2, .ref b), (3, .ref cl)]) hx hb dHA_init_111 hl (by decide) rfl (fun ls hl => ?_)
              have lp113 : ∀ (n9 : Nat) (j9 : Nat) (co4 : Nat → Int) (bb : Nat) (gl4 gr4 : Nat → Int), (j9 ≤ ks.length) → (HIv ks K co4 bb) → (bb < 8) → (∀ x, x < j9 → co4 x ≠ -1) → (ks.length - j9) < n9 → ∀ (H : Heap) (locs : List Loc), va_P D vwCl [(t, .inr (4, [.ref ca9, .int (iI (bb : Int))])), (ca9, .inl (cI, ks.length, .inl (zf co4))), (r, .inr (5, [.ref a, .int (iI (ks.length : Int))])), (a, .inl (cI, n, .inl (zf f))), (cl, .inr (2, [.ref b, .ref fr, .ref ca, .int (iI cc2), .ref ge, .int (iI gc2)])), (b, .inr (1, [.ref lf, .ref rt])), (lf, .inl (cI, 9, .inl (zf gl4))), (rt, .inl (cI, 9, .inl (zf gr4))), (fr, .inr (5, [.ref fa, .int (iI (K.length : Int))])), (fa, .inl (cI, 192, .inl (zf ff2))), (ca, .inl (cI, 192, .inl (zf fc2))), (ge, .inl (cI, 10, .inl (zf fg2)))] H → va_D A [(t, .inr (4, [.ref ca9, .int (iI (bb : Int))])), (ca9, .inl (cI, ks.length, .inl (zf co4))), (r, .inr (5, [.ref a, .int (iI (ks.length : Int))])), (a, .inl (cI, n, .inl (zf f))), (cl, .inr (2, [.ref b, .ref fr, .ref ca, .int (iI cc2), .ref ge, .int (iI gc2)])), (b, .inr (1, [.ref lf, .ref rt])), (lf, .inl (cI, 9, .inl (zf gl4))), (rt, .inl (cI, 9, .inl (zf gr4))), (fr, .inr (5, [.ref fa, .int (iI (K.length : Int))])), (fa, .inl (cI, 192, .inl (zf ff2))), (ca, .inl (cI, 192, .inl (zf fc2))), (ge, .inl (cI, 10, .inl (zf fg2)))] → va_S A s.heap H locs → ∀ (ls : Array Slot), lv_has ls 5 [(0, .ref t), (1, .ref r), (2, .ref b), (3, .ref cl), (4, .int (iI (j9 : Int)))] → W p l e (headSpec wHA_init rmHA_init).room s m args below meth c H locs 1 192 Q (F0 m 113 ls []) := by
                intro n9
                induction n9 with
                | zero => intro j9 co4 bb gl4 gr4 hj9 hH hbb hall hm; exact absurd hm (Nat.not_lt_zero _)
                | succ n9 ih113 =>
                  intro j9 co4 bb gl4 gr4 hj9 hH hbb hall hm113 H locs hP hD hS ls hl
                  refine lv_iload hx hb dHA_init_113 (lv_at hl 4 rfl) ?_
                  refine lv_aload_n hx hb dHA_init_115 rfl (lv_at hl 0 rfl) ?_
                  refine va_get (D := D) (ci := 4) (v := .ref ca9) (C := nHA) (T := fHA) (N := 2) hx hb hts iwHA hown hK hP 0 rfl rfl 0 (by decide) (hts _ (List.mem_cons_of_mem _ lkHA_21)) (fun _ h9 => h9) rfl dHA_init_116 ?_
                  refine lz_alen hx hb hK hP 1 0 rfl rfl dHA_init_119 ?_
                  refine lz_icmp_ge (tgt := 148) hx hb dHA_init_120 (by decide) (by omega) (by omega) (fun c_120 => ?_) (fun c_120 => ?_)
                  · exact hret H locs 1 192 148 ls (ca9, co4, (bb : Int), (K.length : Int), ff2, fc2, cc2, fg2, gc2, gl4, gr4) ⟨⟨K, bb, hsq, hH, fun x hx9 => hall x (by omega), rfl, hbb⟩, K, hC.1, rfl⟩ (hP.sub [0, 1, 2, 3, 4, 5, 6, 7, 8, 9, 10, 11] rfl) (hD.sub [0, 1, 2, 3, 4, 5, 6, 7, 8, 9, 10, 11] (by decide) rfl) hS (by decide) (by decide) dHA_init_148
                  · refine lv_aload_n hx hb dHA_init_123 rfl (lv_at hl 0 rfl) ?_
                    refine va_get (D := D) (ci := 4) (v := .ref ca9) (C := nHA) (T := fHA) (N := 2) hx hb hts iwHA hown hK hP 0 rfl rfl 0 (by decide) (hts _ (List.mem_cons_of_mem _ lkHA_21)) (fun _ h9 => h9) rfl dHA_init_124 ?_
                    refine lv_iload hx hb dHA_init_127 (lv_at hl 4 rfl) ?_
                    refine lz_ialk hx hb hK hP 1 0 rfl rfl (z := (j9 : Int)) j9 rfl (by omega) dHA_init_129 ?_
                    refine lv_iconst (v := iI (-1)) hx hb dHA_init_130 rfl ?_
                    refine lz_icmp_ne (tgt := 142) hx hb dHA_init_131 (by decide) (by have := hH.1 j9 (by omega); have := pow_le128 hbb; omega) (by omega) (fun c_131 => ?_) (fun c_131 => ?_)
                    · refine lz_iinc (lv' := [(4, .int (iI ((j9 : Int) + 1))), (0, .ref t), (1, .ref r), (2, .ref b), (3, .ref cl)]) hx hb dHA_init_142 hl (k := 4) rfl (by decide) rfl (fun ls hl => ?_)
                      refine lv_goto (tgt := 113) hx hb dHA_init_145 (by decide) ?_
                      exact ih113 (j9 + 1) co4 bb gl4 gr4 (by omega) hH hbb (fun x hx9 => by
                          rcases Nat.lt_or_ge x j9 with q | q
                          · exact hall x q
                          · obtain rfl : x = j9 := by omega
                            exact c_131) (by omega) _ _ (hP.sub [0, 1, 2, 3, 4, 5, 6, 7, 8, 9, 10, 11] rfl) (hD.sub [0, 1, 2, 3, 4, 5, 6, 7, 8, 9, 10, 11] (by decide) rfl) hS _ (lv_sub hl [1, 2, 3, 4, 0] rfl)
                    · refine lv_aload_n hx hb dHA_init_134 rfl (lv_at hl 0 rfl) ?_
                      refine lv_iload hx hb dHA_init_135 (lv_at hl 4 rfl) ?_
                      refine lv_aload_n hx hb dHA_init_137 rfl (lv_at hl 1 rfl) ?_
                      refine lv_aload_n hx hb dHA_init_138 rfl (lv_at hl 2 rfl) ?_
                      refine zV.back (va_runV (As := [.int (iI (j9 : Int)), .ref r, .ref b]) (rest := []) ⟨hx, hb, hml, hown, hts⟩ ((mHA_addBit l D cI cG t ca9 co4 bb r a n f ks b lf rt gl4 gr4 K j9 h hn hG hsq hH hbb (by omega) c_131) H.size) (cwV 3 hts (gT1 lkHA_51 (gT1 imHA_addBit (gT1 seHA_addBit (gT1 iniHA (gTW kcHA_addBit))))) rfl rfl rfl (by decide +kernel) ⟨Nat.le_of_ble_eq_true rfl, Nat.le_of_ble_eq_true rfl⟩) ⟨zPre_blind, va_recv hK hP (ci := 4) (q0 := 0) rfl rfl, zPre.at (wc := [(t, .inr (4, [.ref ca9, .int (iI (bb : Int))])), (ca9, .inl (cI, ks.length, .inl (zf co4))), (r, .inr (5, [.ref a, .int (iI (ks.length : Int))])), (a, .inl (cI, n, .inl (zf f))), (b, .inr (1, [.ref lf, .ref rt])), (lf, .inl (cI, 9, .inl (zf gl4))), (rt, .inl (cI, 9, .inl (zf gr4)))]) hK hP hD hS hA hX [0, 1, 2, 3, 5, 6, 7] (by decide) rfl⟩ rfl rfl hl.1 rfl (lv_room (Nat.le_of_ble_eq_true rfl)) dHA_init_139 ⟨Nat.le_of_ble_eq_true rfl, Nat.le_of_ble_eq_true rfl⟩) (wr := [(cl, .inr (2, [.ref b, .ref fr, .ref ca, .int (iI cc2), .ref ge, .int (iI gc2)])), (fr, .inr (5, [.ref fa, .int (iI (K.length : Int))])), (fa, .inl (cI, 192, .inl (zf ff2))), (ca, .inl (cI, 192, .inl (zf fc2))), (ge, .inl (cI, 10, .inl (zf fg2)))]) hP hD hS hA [0, 1, 2, 3, 5, 6, 7] [4, 8, 9, 10, 11] rfl rfl (by decide) (by decide) (fun u_139 H locs q_139 hP hD hS hz_139 hk_139 => ?_)
                      obtain ⟨co5, gl5, gr5⟩ := u_139
                      have q_139 : HAdd ks co4 co5 bb j9 := q_139
                      obtain ⟨hH5, hj5⟩ := hH.add hG hnd hsq (by omega) c_131 hall q_139
                      have hP : va_P D vwCl [(cl, .inr (2, [.ref b, .ref fr, .ref ca, .int (iI cc2), .ref ge, .int (iI gc2)])), (fr, .inr (5, [.ref fa, .int (iI (K.length : Int))])), (fa, .inl (cI, 192, .inl (zf ff2))), (ca, .inl (cI, 192, .inl (zf fc2))), (ge, .inl (cI, 10, .inl (zf fg2))), (t, .inr (4, [.ref ca9, .int (iI ((bb : Int) + 1))])), (ca9, .inl (cI, ks.length, .inl (zf co5))), (r, .inr (5, [.ref a, .int (iI (ks.length : Int))])), (a, .inl (cI, n, .inl (zf f))), (b, .inr (1, [.ref lf, .ref rt])), (lf, .inl (cI, 9, .inl (zf gl5))), (rt, .inl (cI, 9, .inl (zf gr5)))] H := hP
                      have hD : va_D A [(cl, .inr (2, [.ref b, .ref fr, .ref ca, .int (iI cc2), .ref ge, .int (iI gc2)])), (fr, .inr (5, [.ref fa, .int (iI (K.length : Int))])), (fa, .inl (cI, 192, .inl (zf ff2))), (ca, .inl (cI, 192, .inl (zf fc2))), (ge, .inl (cI, 10, .inl (zf fg2))), (t, .inr (4, [.ref ca9, .int (iI ((bb : Int) + 1))])), (ca9, .inl (cI, ks.length, .inl (zf co5))), (r, .inr (5, [.ref a, .int (iI (ks.length : Int))])), (a, .inl (cI, n, .inl (zf f))), (b, .inr (1, [.ref lf, .ref rt])), (lf, .inl (cI, 9, .inl (zf gl5))), (rt, .inl (cI, 9, .inl (zf gr5)))] := hD
                      refine lz_iinc (lv' := [(4, .int (iI ((j9 : Int) + 1))), (0, .ref t), (1, .ref r), (2, .ref b), (3, .ref cl)]) hx hb dHA_init_142 hl (k := 4) rfl (by decide) rfl (fun ls hl => ?_)
                      refine lv_goto (tgt := 113) hx hb dHA_init_145 (by decide) ?_
                      exact ih113 (j9 + 1) co5 (bb + 1) gl5 gr5 (by omega) hH5 (hH5.bits hn) (fun x hx9 => by
                          rcases Nat.lt_or_ge x j9 with q | q
                          · rw [q_139.1 x (by omega) (hall x q)]; exact hall x q
                          · obtain rfl : x = j9 := by omega
                            rw [hj5]; have := Nat.two_pow_pos bb; omega) (by omega) _ _ (hP.sub [5, 6, 7, 8, 0, 9, 10, 11, 1, 2, 3, 4] rfl) (hD.sub [5, 6, 7, 8, 0, 9, 10, 11, 1, 2, 3, 4] (by decide) rfl) hS _ (lv_sub hl [1, 2, 3, 4, 0] rfl)
              exact lp113 _ 0 co3 0 gl2 gr2 (Nat.zero_le _) hH0 (by decide) (fun x hx9 => absurd hx9 (Nat.not_lt_zero _)) (Nat.lt_succ_self _) _ _ (hP.sub [0, 1, 2, 3, 4, 5, 6, 7, 8, 9, 10, 11] rfl) (hD.sub [0, 1, 2, 3, 4, 5, 6, 7, 8, 9, 10, 11] (by decide) rfl) hS _ (lv_sub hl [1, 2, 3, 4, 0] rfl)
            · refine lv_aload_n hx hb dHA_init_76 rfl (lv_at hl 0 rfl) ?_
              refine va_get (D := D) (ci := 4) (v := .ref ca9) (C := nHA) (T := fHA) (N := 2) hx hb hts iwHA hown hK hP 0 rfl rfl 0 (by decide) (hts _ (List.mem_cons_of_mem _ lkHA_21)) (fun _ h9 => h9) rfl dHA_init_77 ?_
              refine lv_iload hx hb dHA_init_80 (lv_at hl 4 rfl) ?_
              refine lv_aload_n hx hb dHA_init_82 rfl (lv_at hl 3 rfl) ?_
              refine zRQ.back ((va_runV (As := []) (rest := [.int (iI (j : Int)), .ref ca9]) ⟨hx, hb, hml, hown, hts⟩ (mCL_found l D cI cG cl b lf rt fr fa ca ge cc2 gc2) (cwV 0 hts (gT1 lkHA_44 (gT1 imCL_found (gT1 seCL_found (gT1 iniCL (gTW kcCL_found))))) rfl rfl rfl (by decide +kernel) ⟨Nat.le_of_ble_eq_true rfl, Nat.le_of_ble_eq_true rfl⟩) ⟨zRd_blind, va_recv hK hP (ci := 2) (q0 := 4) rfl rfl, zRd.at (wc := [(cl, .inr (2, [.ref b, .ref fr, .ref ca, .int (iI cc2), .ref ge, .int (iI gc2)]))]) hK (hP.sub (ws' := [(cl, .inr (2, [.ref b, .ref fr, .ref ca, .int (iI cc2), .ref ge, .int (iI gc2)]))]) [4] rfl) (stF.now hX hS)⟩ rfl rfl hl.1 rfl (lv_room (Nat.le_of_ble_eq_true rfl)) dHA_init_83 ⟨Nat.le_of_ble_eq_true rfl, Nat.le_of_ble_eq_true rfl⟩).run) (fun r_83 q_83 => ?_)
              obtain rfl : r_83 = some fr := q_83
              refine lv_aload_n hx hb dHA_init_86 rfl (lv_at hl 1 rfl) ?_
              refine lv_iload hx hb dHA_init_87 (lv_at hl 4 rfl) ?_
              refine zRI.back ((va_runV (As := [.int (iI (j : Int))]) (rest := [.ref fr, .int (iI (j : Int)), .ref ca9]) ⟨hx, hb, hml, hown, hts⟩ (mRO_at l D cI cG r a n f ks (j : Int) h (by omega)) (cwV 1 hts (gT1 lkHA_30 (gT1 imRO_at (gT1 seRO_at (gT1 iniRO (gTW kcRO_at))))) rfl rfl rfl (by decide +kernel) ⟨Nat.le_of_ble_eq_true rfl, Nat.le_of_ble_eq_true rfl⟩) ⟨zRd_blind, va_recv hK hP (ci := 5) (q0 := 2) rfl rfl, zRd.at (wc := [(r, .inr (5, [.ref a, .int (iI (ks.length : Int))])), (a, .inl (cI, n, .inl (zf f)))]) hK (hP.sub (ws' := [(r, .inr (5, [.ref a, .int (iI (ks.length : Int))])), (a, .inl (cI, n, .inl (zf f)))]) [2, 3] rfl) (stF.now hX hS)⟩ rfl rfl hl.1 rfl (lv_room (Nat.le_of_ble_eq_true rfl)) dHA_init_89 ⟨Nat.le_of_ble_eq_true rfl, Nat.le_of_ble_eq_true rfl⟩).run) (fun z_89 q_89 => ?_)
              obtain rfl : z_89 = ks.getD j (-1) := by have q9 : z_89 = lat ks (j : Int) := q_89; rw [q9]; exact (lat_in (by omega) (by omega)).1
              refine zRI.back ((va_runV (As := [.int (iI (ks.getD j (-1)))]) (rest := [.int (iI (j : Int)), .ref ca9]) ⟨hx, hb, hml, hown, hts⟩ (mRO_has l D cI cG fr fa 192 ff2 K (ks.getD j (-1)) hC.1 (by have := hkk j (by omega); unfold kOK at this; omega)) (cwV 1 hts (gT1 lkHA_48 (gT1 imRO_has (gT1 seRO_has (gT1 iniRO (gTW kcRO_has))))) rfl rfl rfl (by decide +kernel) ⟨Nat.le_of_ble_eq_true rfl, Nat.le_of_ble_eq_true rfl⟩) ⟨zRd_blind, va_recv hK hP (ci := 5) (q0 := 8) rfl rfl, zRd.at (wc := [(fr, .inr (5, [.ref fa, .int (iI (K.length : Int))])), (fa, .inl (cI, 192, .inl (zf ff2)))]) hK (hP.sub (ws' := [(fr, .inr (5, [.ref fa, .int (iI (K.length : Int))])), (fa, .inl (cI, 192, .inl (zf ff2)))]) [8, 9] rfl) (stF.now hX hS)⟩ rfl rfl hl.1 rfl (lv_room (Nat.le_of_ble_eq_true rfl)) dHA_init_92 ⟨Nat.le_of_ble_eq_true rfl, Nat.le_of_ble_eq_true rfl⟩).run) (fun z_92 q_92 => ?_)
              have q_92 : (z_92 = 1 ∧ ks.getD j (-1) ∈ K) ∨ (z_92 = 0 ∧ ks.getD j (-1) ∉ K) := q_92
              refine lz_if_eq (tgt := 102) hx hb dHA_init_95 (by decide) (by rcases q_92 with ⟨q, _⟩ | ⟨q, _⟩ <;> omega) (fun c_95 => ?_) (fun c_95 => ?_)
              · refine lv_iconst (v := iI (-1)) hx hb dHA_init_102 rfl ?_
                refine lz_iask hx hb hK hP hD hS 1 0 rfl rfl (z := (j : Int)) (v := (-1)) j rfl (by omega) dHA_init_103 (fun H locs hP hD hS => ?_)
                have hP : va_P D vwCl [(t, .inr (4, [.ref ca9, .int (iI 0)])), (ca9, .inl (cI, ks.length, .inl (zf (zu co3 j (-1))))), (r, .inr (5, [.ref a, .int (iI (ks.length : Int))])), (a, .inl (cI, n, .inl (zf f))), (cl, .inr (2, [.ref b, .ref fr, .ref ca, .int (iI cc2), .ref ge, .int (iI gc2)])), (b, .inr (1, [.ref lf, .ref rt])), (lf, .inl (cI, 9, .inl (zf gl2))), (rt, .inl (cI, 9, .inl (zf gr2))), (fr, .inr (5, [.ref fa, .int (iI (K.length : Int))])), (fa, .inl (cI, 192, .inl (zf ff2))), (ca, .inl (cI, 192, .inl (zf fc2))), (ge, .inl (cI, 10, .inl (zf fg2)))] H := hP
                have hD : va_D A [(t, .inr (4, [.ref ca9, .int (iI 0)])), (ca9, .inl (cI, ks.length, .inl (zf (zu co3 j (-1))))), (r, .inr (5, [.ref a, .int (iI (ks.length : Int))])), (a, .inl (cI, n, .inl (zf f))), (cl, .inr (2, [.ref b, .ref fr, .ref ca, .int (iI cc2), .ref ge, .int (iI gc2)])), (b, .inr (1, [.ref lf, .ref rt])), (lf, .inl (cI, 9, .inl (zf gl2))), (rt, .inl (cI, 9, .inl (zf gr2))), (fr, .inr (5, [.ref fa, .int (iI (K.length : Int))])), (fa, .inl (cI, 192, .inl (zf ff2))), (ca, .inl (cI, 192, .inl (zf fc2))), (ge, .inl (cI, 10, .inl (zf fg2)))] := hD
                refine lz_iinc (lv' := [(4, .int (iI ((j : Int) + 1))), (0, .ref t), (1, .ref r), (2, .ref b), (3, .ref cl)]) hx hb dHA_init_104 hl (k := 4) rfl (by decide) rfl (fun ls hl => ?_)
                refine lv_goto (tgt := 66) hx hb dHA_init_107 (by decide) ?_
                exact ih66 (j + 1) (zu co3 j (-1)) (by omega) (fun x hx9 => by
                    rcases Nat.lt_or_ge x j with q | q
                    · rw [zu_n _ _ (by omega)]; exact hco x q
                    · obtain rfl : x = j := by omega
                      rw [zu_s]
                      exact Or.inr ⟨by rcases q_92 with ⟨q9, _⟩ | ⟨_, q9⟩ <;> first | exact q9 | omega, rfl⟩) (by omega) _ _ (hP.sub [0, 1, 2, 3, 4, 5, 6, 7, 8, 9, 10, 11] rfl) (hD.sub [0, 1, 2, 3, 4, 5, 6, 7, 8, 9, 10, 11] (by decide) rfl) hS _ (lv_sub hl [1, 2, 3, 4, 0] rfl)
              · refine lv_iconst (v := iI (0)) hx hb dHA_init_98 rfl ?_
                refine lv_goto (tgt := 103) hx hb dHA_init_99 (by decide) ?_
                refine lz_iask hx hb hK hP hD hS 1 0 rfl rfl (z := (j : Int)) (v := 0) j rfl (by omega) dHA_init_103 (fun H locs hP hD hS => ?_)
                have hP : va_P D vwCl [(t, .inr (4, [.ref ca9, .int (iI 0)])), (ca9, .inl (cI, ks.length, .inl (zf (zu co3 j 0)))), (r, .inr (5, [.ref a, .int (iI (ks.length : Int))])), (a, .inl (cI, n, .inl (zf f))), (cl, .inr (2, [.ref b, .ref fr, .ref ca, .int (iI cc2), .ref ge, .int (iI gc2)])), (b, .inr (1, [.ref lf, .ref rt])), (lf, .inl (cI, 9, .inl (zf gl2))), (rt, .inl (cI, 9, .inl (zf gr2))), (fr, .inr (5, [.ref fa, .int (iI (K.length : Int))])), (fa, .inl (cI, 192, .inl (zf ff2))), (ca, .inl (cI, 192, .inl (zf fc2))), (ge, .inl (cI, 10, .inl (zf fg2)))] H := hP
                have hD : va_D A [(t, .inr (4, [.ref ca9, .int (iI 0)])), (ca9, .inl (cI, ks.length, .inl (zf (zu co3 j 0)))), (r, .inr (5, [.ref a, .int (iI (ks.length : Int))])), (a, .inl (cI, n, .inl (zf f))), (cl, .inr (2, [.ref b, .ref fr, .ref ca, .int (iI cc2), .ref ge, .int (iI gc2)])), (b, .inr (1, [.ref lf, .ref rt])), (lf, .inl (cI, 9, .inl (zf gl2))), (rt, .inl (cI, 9, .inl (zf gr2))), (fr, .inr (5, [.ref fa, .int (iI (K.length : Int))])), (fa, .inl (cI, 192, .inl (zf ff2))), (ca, .inl (cI, 192, .inl (zf fc2))), (ge, .inl (cI, 10, .inl (zf fg2)))] := hD
                refine lz_iinc (lv' := [(4, .int (iI ((j : Int) + 1))), (0, .ref t), (1, .ref r), (2, .ref b), (3, .ref cl)]) hx hb dHA_init_104 hl (k := 4) rfl (by decide) rfl (fun ls hl => ?_)
                refine lv_goto (tgt := 66) hx hb dHA_init_107 (by decide) ?_
                exact ih66 (j + 1) (zu co3 j 0) (by omega) (fun x hx9 => by
                    rcases Nat.lt_or_ge x j with q | q
                    · rw [zu_n _ _ (by omega)]; exact hco x q
                    · obtain rfl : x = j := by omega
                      rw [zu_s]
                      exact Or.inl ⟨by rcases q_92 with ⟨_, q9⟩ | ⟨q9, _⟩ <;> first | exact q9 | omega, rfl⟩) (by omega) _ _ (hP.sub [0, 1, 2, 3, 4, 5, 6, 7, 8, 9, 10, 11] rfl) (hD.sub [0, 1, 2, 3, 4, 5, 6, 7, 8, 9, 10, 11] (by decide) rfl) hS _ (lv_sub hl [1, 2, 3, 4, 0] rfl)
        exact lp66 _ 0 (fun _ => 0) (Nat.zero_le _) (fun x hx9 => absurd hx9 (Nat.not_lt_zero _)) (Nat.lt_succ_self _) _ _ (hP.sub [0, 1, 2, 3, 4, 5, 6, 7, 8, 9, 10, 11] rfl) (hD.sub [0, 1, 2, 3, 4, 5, 6, 7, 8, 9, 10, 11] (by decide) rfl) hS _ (lv_sub hl [1, 2, 3, 4, 0] rfl)
      · have hsqk : timesK (ks.getD i (-1)) (ks.getD i (-1)) ∈ ks := hG.2.2.2 _ (getD_mem (by omega)) _ (getD_mem (by omega))
        refine lv_aload_n hx hb dHA_init_36 rfl (lv_at hl 3 rfl) ?_
        refine lv_aload_n hx hb dHA_init_37 rfl (lv_at hl 2 rfl) ?_
        refine lv_aload_n hx hb dHA_init_38 rfl (lv_at hl 1 rfl) ?_
        refine lv_iload hx hb dHA_init_39 (lv_at hl 4 rfl) ?_
        refine zRI.back ((va_runV (As := [.int (iI (i : Int))]) (rest := [.ref b, .ref cl]) ⟨hx, hb, hml, hown, hts⟩ (mRO_at l D cI cG r a n f ks (i : Int) h (by omega)) (cwV 1 hts (gT1 lkHA_30 (gT1 imRO_at (gT1 seRO_at (gT1 iniRO (gTW kcRO_at))))) rfl rfl rfl (by decide +kernel) ⟨Nat.le_of_ble_eq_true rfl, Nat.le_of_ble_eq_true rfl⟩) ⟨zRd_blind, va_recv hK hP (ci := 5) (q0 := 2) rfl rfl, zRd.at (wc := [(r, .inr (5, [.ref a, .int (iI (ks.length : Int))])), (a, .inl (cI, n, .inl (zf f)))]) hK (hP.sub (ws' := [(r, .inr (5, [.ref a, .int (iI (ks.length : Int))])), (a, .inl (cI, n, .inl (zf f)))]) [2, 3] rfl) (stF.now hX hS)⟩ rfl rfl hl.1 rfl (lv_room (Nat.le_of_ble_eq_true rfl)) dHA_init_41 ⟨Nat.le_of_ble_eq_true rfl, Nat.le_of_ble_eq_true rfl⟩).run) (fun z_41 q_41 => ?_)
        obtain rfl : z_41 = ks.getD i (-1) := by have q9 : z_41 = lat ks (i : Int) := q_41; rw [q9]; exact (lat_in (by omega) (by omega)).1
        refine lv_aload_n hx hb dHA_init_44 rfl (lv_at hl 1 rfl) ?_
        refine lv_iload hx hb dHA_init_45 (lv_at hl 4 rfl) ?_
        refine zRI.back ((va_runV (As := [.int (iI (i : Int))]) (rest := [.int (iI (ks.getD i (-1))), .ref b, .ref cl]) ⟨hx, hb, hml, hown, hts⟩ (mRO_at l D cI cG r a n f ks (i : Int) h (by omega)) (cwV 1 hts (gT1 lkHA_30 (gT1 imRO_at (gT1 seRO_at (gT1 iniRO (gTW kcRO_at))))) rfl rfl rfl (by decide +kernel) ⟨Nat.le_of_ble_eq_true rfl, Nat.le_of_ble_eq_true rfl⟩) ⟨zRd_blind, va_recv hK hP (ci := 5) (q0 := 2) rfl rfl, zRd.at (wc := [(r, .inr (5, [.ref a, .int (iI (ks.length : Int))])), (a, .inl (cI, n, .inl (zf f)))]) hK (hP.sub (ws' := [(r, .inr (5, [.ref a, .int (iI (ks.length : Int))])), (a, .inl (cI, n, .inl (zf f)))]) [2, 3] rfl) (stF.now hX hS)⟩ rfl rfl hl.1 rfl (lv_room (Nat.le_of_ble_eq_true rfl)) dHA_init_47 ⟨Nat.le_of_ble_eq_true rfl, Nat.le_of_ble_eq_true rfl⟩).run) (fun z_47 q_47 => ?_)
        obtain rfl : z_47 = ks.getD i (-1) := by have q9 : z_47 = lat ks (i : Int) := q_47; rw [q9]; exact (lat_in (by omega) (by omega)).1
        refine zI.back (va_runV (As := [.int (iI (ks.getD i (-1))), .int (iI (ks.getD i (-1)))]) (rest := [.ref cl]) ⟨hx, hb, hml, hown, hts⟩ ((mBE_times l D cI cG b lf rt gl2 gr2 (ks.getD i (-1)) (ks.getD i (-1)) (hkk i (by omega)) (hkk i (by omega))) H.size) (cwV 2 hts (gT1 lkHA_34 (gT1 imBE_times (gT1 seBE_times (gT1 iniBE (gTW kcBE_times))))) rfl rfl rfl (by decide +kernel) ⟨Nat.le_of_ble_eq_true rfl, Nat.le_of_ble_eq_true rfl⟩) ⟨zPre_blind, va_recv hK hP (ci := 1) (q0 := 5) rfl rfl, zPre.at (wc := [(b, .inr (1, [.ref lf, .ref rt])), (lf, .inl (cI, 9, .inl (zf gl2))), (rt, .inl (cI, 9, .inl (zf gr2)))]) hK hP hD hS hA hX [5, 6, 7] (by decide) rfl⟩ rfl rfl hl.1 rfl (lv_room (Nat.le_of_ble_eq_true rfl)) dHA_init_50 ⟨Nat.le_of_ble_eq_true rfl, Nat.le_of_ble_eq_true rfl⟩) (wr := [(t, .inr (4, [.ref ca9, .int (iI 0)])), (ca9, .inl (cI, ks.length, .inl (zf (fun _ => 0)))), (r, .inr (5, [.ref a, .int (iI (ks.length : Int))])), (a, .inl (cI, n, .inl (zf f))), (cl, .inr (2, [.ref b, .ref fr, .ref ca, .int (iI cc2), .ref ge, .int (iI gc2)])), (fr, .inr (5, [.ref fa, .int (iI fs2)])), (fa, .inl (cI, 192, .inl (zf ff2))), (ca, .inl (cI, 192, .inl (zf fc2))), (ge, .inl (cI, 10, .inl (zf fg2)))]) hP hD hS hA [5, 6, 7] [0, 1, 2, 3, 4, 8, 9, 10, 11] rfl rfl (by decide) (by decide) (fun z_50 u_50 H locs q_50 hP hD hS hz_50 hk_50 => ?_)
        obtain rfl : z_50 = timesK (ks.getD i (-1)) (ks.getD i (-1)) := q_50
        have hP : va_P D vwCl [(t, .inr (4, [.ref ca9, .int (iI 0)])), (ca9, .inl (cI, ks.length, .inl (zf (fun _ => 0)))), (r, .inr (5, [.ref a, .int (iI (ks.length : Int))])), (a, .inl (cI, n, .inl (zf f))), (cl, .inr (2, [.ref b, .ref fr, .ref ca, .int (iI cc2), .ref ge, .int (iI gc2)])), (fr, .inr (5, [.ref fa, .int (iI fs2)])), (fa, .inl (cI, 192, .inl (zf ff2))), (ca, .inl (cI, 192, .inl (zf fc2))), (ge, .inl (cI, 10, .inl (zf fg2))), (b, .inr (1, [.ref lf, .ref rt])), (lf, .inl (cI, 9, .inl (zf (rd (ks.getD i (-1)) gl2)))), (rt, .inl (cI, 9, .inl (zf (rd (ks.getD i (-1)) gr2))))] H := hP
        have hD : va_D A [(t, .inr (4, [.ref ca9, .int (iI 0)])), (ca9, .inl (cI, ks.length, .inl (zf (fun _ => 0)))), (r, .inr (5, [.ref a, .int (iI (ks.length : Int))])), (a, .inl (cI, n, .inl (zf f))), (cl, .inr (2, [.ref b, .ref fr, .ref ca, .int (iI cc2), .ref ge, .int (iI gc2)])), (fr, .inr (5, [.ref fa, .int (iI fs2)])), (fa, .inl (cI, 192, .inl (zf ff2))), (ca, .inl (cI, 192, .inl (zf fc2))), (ge, .inl (cI, 10, .inl (zf fg2))), (b, .inr (1, [.ref lf, .ref rt])), (lf, .inl (cI, 9, .inl (zf (rd (ks.getD i (-1)) gl2)))), (rt, .inl (cI, 9, .inl (zf (rd (ks.getD i (-1)) gr2))))] := hD
        refine zI.back (va_runV (As := [.int (iI (timesK (ks.getD i (-1)) (ks.getD i (-1))))]) (rest := []) ⟨hx, hb, hml, hown, hts⟩ ((mCL_take l D cI cG cl b lf rt fr fa ca ge fs2 ff2 fc2 cc2 fg2 gc2 (rd (ks.getD i (-1)) gl2) (rd (ks.getD i (-1)) gr2) K cm gs (timesK (ks.getD i (-1)) (ks.getD i (-1))) hC hV (hG.2.2.1 _ hsqk)) H.size) (cwV 1 hts (gT1 lkHA_40 (gT1 imCL_take (gT1 seCL_take (gT1 iniCL (gTW kcCL_take))))) rfl rfl rfl (by decide +kernel) ⟨Nat.le_of_ble_eq_true rfl, Nat.le_of_ble_eq_true rfl⟩) ⟨zPre_blind, va_recv hK hP (ci := 2) (q0 := 4) rfl rfl, zPre.at (wc := [(cl, .inr (2, [.ref b, .ref fr, .ref ca, .int (iI cc2), .ref ge, .int (iI gc2)])), (b, .inr (1, [.ref lf, .ref rt])), (lf, .inl (cI, 9, .inl (zf (rd (ks.getD i (-1)) gl2)))), (rt, .inl (cI, 9, .inl (zf (rd (ks.getD i (-1)) gr2)))), (fr, .inr (5, [.ref fa, .int (iI fs2)])), (fa, .inl (cI, 192, .inl (zf ff2))), (ca, .inl (cI, 192, .inl (zf fc2))), (ge, .inl (cI, 10, .inl (zf fg2)))]) hK hP hD hS hA hX [4, 9, 10, 11, 5, 6, 7, 8] (by decide) rfl⟩ rfl rfl hl.1 rfl (lv_room (Nat.le_of_ble_eq_true rfl)) dHA_init_53 ⟨Nat.le_of_ble_eq_true rfl, Nat.le_of_ble_eq_true rfl⟩) (wr := [(t, .inr (4, [.ref ca9, .int (iI 0)])), (ca9, .inl (cI, ks.length, .inl (zf (fun _ => 0)))), (r, .inr (5, [.ref a, .int (iI (ks.length : Int))])), (a, .inl (cI, n, .inl (zf f)))]) hP hD hS hA [4, 9, 10, 11, 5, 6, 7, 8] [0, 1, 2, 3] rfl rfl (by decide) (by decide) (fun z_53 u_53 H locs q_53 hP hD hS hz_53 hk_53 => ?_)
        obtain ⟨fs3, ff3, fc3, cc3, fg3, gc3, gl3, gr3⟩ := u_53
        have hgk : ∀ a ∈ gs ++ [timesK (ks.getD i (-1)) (ks.getD i (-1))], a ∈ ks := fun a ha => (List.mem_append.mp ha).elim (fun q => hgs a q) (fun q => by rw [List.mem_singleton.mp q]; exact hsqk)
        obtain ⟨K2, cm2, gs2, hC2, hV2, hin2, hg2⟩ : ∃ K2 cm2 gs2, CSt fs3 ff3 fc3 cc3 fg3 gc3 K2 cm2 gs2 ∧ CIv K2 cm2 gs2 ∧ timesK (ks.getD i (-1)) (ks.getD i (-1)) ∈ K2 ∧ (gs2 = gs ∨ gs2 = gs ++ [timesK (ks.getD i (-1)) (ks.getD i (-1))]) := by
          rcases q_53 with ⟨_, q⟩ | ⟨_, _, q⟩
          · exact q
          · exact absurd (hgen.sub (fun a ha => hG.2.2.1 a ha) hgk) q
        have hgs2 : ∀ a ∈ gs2, a ∈ ks := by
          rcases hg2 with q | q
          · rw [q]; exact hgs
          · rw [q]; exact hgk
        have hsqs2 : ∀ a ∈ gs2, ∃ y ∈ ks, a = timesK y y := by
          rcases hg2 with q | q
          · rw [q]; exact hsqs
          · rw [q]
            intro a ha
            rcases List.mem_append.mp ha with q9 | q9
            · exact hsqs a q9
            · exact ⟨_, getD_mem (ks := ks) (j := i) (by omega), List.mem_singleton.mp q9⟩
        have hsubK : ∀ x ∈ K, x ∈ K2 := fun x hx9 => by
          have h1 := (hV.2.2.1.2.2.1 x).mp hx9
          refine (hV2.2.2.1.2.2.1 x).mpr ?_
          rcases hg2 with q | q
          · rw [q]; exact h1
          · rw [q]; exact Reach.mono (fun b hb9 => List.mem_append_left _ hb9) h1
        clear q_53 hgk
        have hP : va_P D vwCl [(t, .inr (4, [.ref ca9, .int (iI 0)])), (ca9, .inl (cI, ks.length, .inl (zf (fun _ => 0)))), (r, .inr (5, [.ref a, .int (iI (ks.length : Int))])), (a, .inl (cI, n, .inl (zf f))), (cl, .inr (2, [.ref b, .ref fr, .ref ca, .int (iI cc3), .ref ge, .int (iI gc3)])), (b, .inr (1, [.ref lf, .ref rt])), (lf, .inl (cI, 9, .inl (zf gl3))), (rt, .inl (cI, 9, .inl (zf gr3))), (fr, .inr (5, [.ref fa, .int (iI fs3)])), (fa, .inl (cI, 192, .inl (zf ff3))), (ca, .inl (cI, 192, .inl (zf fc3))), (ge, .inl (cI, 10, .inl (zf fg3)))] H := hP
        have hD : va_D A [(t, .inr (4, [.ref ca9, .int (iI 0)])), (ca9, .inl (cI, ks.length, .inl (zf (fun _ => 0)))), (r, .inr (5, [.ref a, .int (iI (ks.length : Int))])), (a, .inl (cI, n, .inl (zf f))), (cl, .inr (2, [.ref b, .ref fr, .ref ca, .int (iI cc3), .ref ge, .int (iI gc3)])), (b, .inr (1, [.ref lf, .ref rt])), (lf, .inl (cI, 9, .inl (zf gl3))), (rt, .inl (cI, 9, .inl (zf gr3))), (fr, .inr (5, [.ref fa, .int (iI fs3)])), (fa, .inl (cI, 192, .inl (zf ff3))), (ca, .inl (cI, 192, .inl (zf fc3))), (ge, .inl (cI, 10, .inl (zf fg3)))] := hD
        refine lv_pop hx hb dHA_init_56 rfl ?_
        refine lz_iinc (lv' := [(4, .int (iI ((i : Int) + 1))), (0, .ref t), (1, .ref r), (2, .ref b), (3, .ref cl)]) hx hb dHA_init_57 hl (k := 4) rfl (by decide) rfl (fun ls hl => ?_)
        refine lv_goto (tgt := 26) hx hb dHA_init_60 (by decide) ?_
        exact ih26 (i + 1) fs3 ff3 fc3 cc3 fg3 gc3 gl3 gr3 K2 cm2 gs2 (by omega) hC2 hV2 hgs2 hsqs2 (fun j hj => by
            rcases Nat.lt_or_ge j i with q | q
            · exact hsubK _ (hKi j q)
            · obtain rfl : j = i := by omega
              exact hin2) (by omega) _ _ (hP.sub [0, 1, 2, 3, 4, 5, 6, 7, 8, 9, 10, 11] rfl) (hD.sub [0, 1, 2, 3, 4, 5, 6, 7, 8, 9, 10, 11] (by decide) rfl) hS _ (lv_sub hl [1, 2, 3, 4, 0] rfl)
  exact lp26 _ 0 fs1 ff1 fc1 cc1 fg1 gc1 gl1 gr1 ([u0]) ([u0]) ([]) (Nat.zero_le _) q_20 CIv.start (fun a ha => absurd ha List.not_mem_nil) (fun a ha => absurd ha List.not_mem_nil) (fun j hj => absurd hj (Nat.not_lt_zero _)) (Nat.lt_succ_self _) _ _ (hP.sub [0, 3, 1, 2, 4, 5, 6, 7, 8, 9, 10, 11] rfl) (hD.sub [0, 3, 1, 2, 4, 5, 6, 7, 8, 9, 10, 11] (by decide) rfl) hS _ (lv_sub hl [1, 2, 3, 4, 0] rfl)

def rmHA_gather : Room := { frames := 2, cells := 0, slots := 0, locals := 82 }
set_option maxHeartbeats 4000000 in
set_option maxRecDepth 100000 in
theorem mHA_gather (l : Launch) (D : va_G) (cI cG : ClassId) (t ca9 : Nat) (co : Nat → Int) (bb k : Nat) (r a n : Nat) (f : Nat → Int) (ks : List Int) (r2 a2 : Nat) (f2 : Nat → Int) (K2 : List Int) (h : rowOK n f ks) (hn : ks.length ≤ 192) (hco : ∀ x, x < ks.length → 0 ≤ co x ∧ (co x).toNat < 2 ^ bb) (hbb : bb < 8) (hk : k + 1 < 256) (h2 : rowOK 192 f2 K2) : zV l yHA_gather wHA_gather rmHA_gather D vwCl (zT cI cG) [.ref t, .int (iI (k : Int)), .ref r, .ref r2] [(t, .inr (4, [.ref ca9, .int (iI (bb : Int))])), (ca9, .inl (cI, ks.length, .inl (zf co))), (r, .inr (5, [.ref a, .int (iI (ks.length : Int))])), (a, .inl (cI, n, .inl (zf f))), (r2, .inr (5, [.ref a2, .int (iI (K2.length : Int))])), (a2, .inl (cI, 192, .inl (zf f2)))] (S := (Nat → Int)) (fun u => rowOK 192 u (selT ks (hpar co (revB (k + 1) bb)) ks.length)) (fun u => [(t, .inr (4, [.ref ca9, .int (iI (bb : Int))])), (ca9, .inl (cI, ks.length, .inl (zf co))), (r, .inr (5, [.ref a, .int (iI (ks.length : Int))])), (a, .inl (cI, n, .inl (zf f))), (r2, .inr (5, [.ref a2, .int (iI ((selT ks (hpar co (revB (k + 1) bb)) ks.length).length : Int))])), (a2, .inl (cI, 192, .inl (zf u)))]) := by
  refine zV.of (cc := cHA_gather) (maxL := 6) (by decide) rfl (Nat.le_of_ble_eq_true rfl) ?_
  intro p e s m args below meth c A ls Q hx hb hml hown hts hnm hK hD hA hAe hX hl hret H locs hP hS
  have hl : lv_has ls 6 [(0, .ref t), (1, .int (iI (k : Int))), (2, .ref r), (3, .ref r2)] := hl
  have hb1 := h.1
  have hb2 := h.2.1
  have hp9 := pow_le128 hbb
  have hrv := revB_lt (k + 1) bb
  have hr0 : rowOK 192 f2 [] := ⟨by decide, by decide, fun j hj => absurd hj (Nat.not_lt_zero _), List.Pairwise.nil, fun x hx => absurd hx List.not_mem_nil⟩
  have hrg := @rowOK.rng n f ks h
  refine lv_aload_n hx hb dHA_gather_0 rfl (lv_at hl 0 rfl) ?_
  refine lv_iload_n hx hb dHA_gather_1 rfl (lv_at hl 1 rfl) ?_
  refine zRI.back ((va_runV (As := [.int (iI (k : Int))]) (rest := []) ⟨hx, hb, hml, hown, hts⟩ (mHA_refusedBits l D cI cG t ca9 bb k hbb hk) (cwV 1 hts (gT1 lkHA_55 (gT1 imHA_refusedBits (gT1 seHA_refusedBits (gT1 iniHA (gTW kcHA_refusedBits))))) rfl rfl rfl (by decide +kernel) ⟨Nat.le_of_ble_eq_true rfl, Nat.le_of_ble_eq_true rfl⟩) ⟨zRd_blind, va_recv hK hP (ci := 4) (q0 := 0) rfl rfl, zRd.at (wc := [(t, .inr (4, [.ref ca9, .int (iI (bb : Int))]))]) hK (hP.sub (ws' := [(t, .inr (4, [.ref ca9, .int (iI (bb : Int))]))]) [0] rfl) (stF.now hX hS)⟩ rfl rfl hl.1 rfl (lv_room (Nat.le_of_ble_eq_true rfl)) dHA_gather_2 ⟨Nat.le_of_ble_eq_true rfl, Nat.le_of_ble_eq_true rfl⟩).run) (fun z_2 q_2 => ?_)
  obtain rfl : z_2 = ((revB (k + 1) bb : Nat) : Int) := q_2
  refine lv_istore (lv' := [(4, .int (iI ((revB (k + 1) bb : Nat) : Int))), (0, .ref t), (1, .int (iI (k : Int))), (2, .ref r), (3, .ref r2)]) hx hb dHA_gather_5 hl (by decide) rfl (fun ls hl => ?_)
  refine lv_aload_n hx hb dHA_gather_7 rfl (lv_at hl 4 rfl) ?_
  refine zV.back (va_runV (As := []) (rest := []) ⟨hx, hb, hml, hown, hts⟩ ((mRO_clear l D cI cG r2 a2 (K2.length : Int)) H.size) (cwV 0 hts (gT1 lkHA_58 (gT1 imRO_clear (gT1 seRO_clear (gT1 iniRO (gTW kcRO_clear))))) rfl rfl rfl (by decide +kernel) ⟨Nat.le_of_ble_eq_true rfl, Nat.le_of_ble_eq_true rfl⟩) ⟨zPre_blind, va_recv hK hP (ci := 5) (q0 := 4) rfl rfl, zPre.at (wc := [(r2, .inr (5, [.ref a2, .int (iI (K2.length : Int))]))]) hK hP hD hS hA hX [4] (by decide) rfl⟩ rfl rfl hl.1 rfl (lv_room (Nat.le_of_ble_eq_true rfl)) dHA_gather_8 ⟨Nat.le_of_ble_eq_true rfl, Nat.le_of_ble_eq_true rfl⟩) (wr := [(t, .inr (4, [.ref ca9, .int (iI (bb : Int))])), (ca9, .inl (cI, ks.length, .inl (zf co))), (r, .inr (5, [.ref a, .int (iI (ks.length : Int))])), (a, .inl (cI, n, .inl (zf f))), (a2, .inl (cI, 192, .inl (zf f2)))]) hP hD hS hA [4] [0, 1, 2, 3, 5] rfl rfl (by decide) (by decide) (fun u_8 H locs q_8 hP hD hS hz_8 hk_8 => ?_)
  have hP : va_P D vwCl [(t, .inr (4, [.ref ca9, .int (iI (bb : Int))])), (ca9, .inl (cI, ks.length, .inl (zf co))), (r, .inr (5, [.ref a, .int (iI (ks.length : Int))])), (a, .inl (cI, n, .inl (zf f))), (a2, .inl (cI, 192, .inl (zf f2))), (r2, .inr (5, [.ref a2, .int (iI 0)]))] H := hP
  have hD : va_D A [(t, .inr (4, [.ref ca9, .int (iI (bb : Int))])), (ca9, .inl (cI, ks.length, .inl (zf co))), (r, .inr (5, [.ref a, .int (iI (ks.length : Int))])), (a, .inl (cI, n, .inl (zf f))), (a2, .inl (cI, 192, .inl (zf f2))), (r2, .inr (5, [.ref a2, .int (iI 0)]))] := hD
  refine lv_iconst (v := iI (0)) hx hb dHA_gather_11 rfl ?_
  refine lv_istore (lv' := [(5, .int (iI 0)), (4, .int (iI ((revB (k + 1) bb : Nat) : Int))), (0, .ref t), (1, .int (iI (k : Int))), (2, .ref r), (3, .ref r2)]) hx hb dHA_gather_12 hl (by decide) rfl (fun ls hl => ?_)
  have lp14 : ∀ (n9 : Nat) (i : Nat) (f1 : Nat → Int), (i ≤ ks.length) → (rowOK 192 f1 (selT ks (hpar co (revB (k + 1) bb)) i)) → (ks.length - i) < n9 → ∀ (H : Heap) (locs : List Loc), va_P D vwCl [(t, .inr (4, [.ref ca9, .int (iI (bb : Int))])), (ca9, .inl (cI, ks.length, .inl (zf co))), (r, .inr (5, [.ref a, .int (iI (ks.length : Int))])), (a, .inl (cI, n, .inl (zf f))), (r2, .inr (5, [.ref a2, .int (iI ((selT ks (hpar co (revB (k + 1) bb)) i).length : Int))])), (a2, .inl (cI, 192, .inl (zf f1)))] H → va_D A [(t, .inr (4, [.ref ca9, .int (iI (bb : Int))])), (ca9, .inl (cI, ks.length, .inl (zf co))), (r, .inr (5, [.ref a, .int (iI (ks.length : Int))])), (a, .inl (cI, n, .inl (zf f))), (r2, .inr (5, [.ref a2, .int (iI ((selT ks (hpar co (revB (k + 1) bb)) i).length : Int))])), (a2, .inl (cI, 192, .inl (zf f1)))] → va_S A s.heap H locs → ∀ (ls : Array Slot), lv_has ls 6 [(0, .ref t), (2, .ref r), (3, .ref r2), (4, .int (iI ((revB (k + 1) bb : Nat) : Int))), (5, .int (iI (i : Int)))] → W p l e (headSpec wHA_gather rmHA_gather).room s m args below meth c H locs 0 0 Q (F0 m 14 ls []) := by
    intro n9
    induction n9 with
    | zero => intro i f1 hi hI hm; exact absurd hm (Nat.not_lt_zero _)
    | succ n9 ih14 =>
      intro i f1 hi hI hm14 H locs hP hD hS ls hl
      refine lv_iload hx hb dHA_gather_14 (lv_at hl 4 rfl) ?_
      refine lv_aload_n hx hb dHA_gather_16 rfl (lv_at hl 0 rfl) ?_
      refine va_get (D := D) (ci := 4) (v := .ref ca9) (C := nHA) (T := fHA) (N := 2) hx hb hts iwHA hown hK hP 0 rfl rfl 0 (by decide) (hts _ (List.mem_cons_of_mem _ lkHA_21)) (fun _ h9 => h9) rfl dHA_gather_17 ?_
      refine lz_alen hx hb hK hP 1 0 rfl rfl dHA_gather_20 ?_
      refine lz_icmp_ge (tgt := 59) hx hb dHA_gather_21 (by decide) (by omega) (by omega) (fun c_21 => ?_) (fun c_21 => ?_)
      · have hin : i = ks.length := by omega
        rw [hin] at hI hP hD
        exact hret H locs 0 0 59 ls f1 hI (hP.sub [0, 1, 2, 3, 4, 5] rfl) (hD.sub [0, 1, 2, 3, 4, 5] (by decide) rfl) hS (Nat.zero_le _) (Nat.zero_le _) dHA_gather_59
      · have hci := hco i (by omega)
        have hand : (co i).toNat &&& (revB (k + 1) bb) < 128 := Nat.lt_of_le_of_lt Nat.and_le_left (by omega)
        have hpc := pcN_le _ hand
        refine lv_aload_n hx hb dHA_gather_24 rfl (lv_at hl 0 rfl) ?_
        refine va_get (D := D) (ci := 4) (v := .ref ca9) (C := nHA) (T := fHA) (N := 2) hx hb hts iwHA hown hK hP 0 rfl rfl 0 (by decide) (hts _ (List.mem_cons_of_mem _ lkHA_21)) (fun _ h9 => h9) rfl dHA_gather_25 ?_
        refine lv_iload hx hb dHA_gather_28 (lv_at hl 4 rfl) ?_
        refine lz_ialk hx hb hK hP 1 0 rfl rfl (z := (i : Int)) i rfl (by omega) dHA_gather_30 ?_
        refine lv_iload hx hb dHA_gather_31 (lv_at hl 3 rfl) ?_
        refine lz_iand (z := (((co i).toNat &&& (revB (k + 1) bb) : Nat) : Int)) hx hb dHA_gather_33 (by rw [show co i = (((co i).toNat : Nat) : Int) by have := hco i (by omega); omega]; exact and_ok _ (by omega) _ (by omega)) ?_
        refine zRI.back ((va_runS (As := [.int (iI (((co i).toNat &&& (revB (k + 1) bb) : Nat) : Int))]) (rest := []) ⟨hx, hb, hml, hown, hts⟩ (mJI_bitCount l D cI cG ((co i).toNat &&& (revB (k + 1) bb)) hand) (va_cwS 1 hts (gT1 lkHA_61 (gT1 smJI_bitCount (gT1 iniJI (gTW kcJI_bitCount)))) rfl rfl rfl (by decide +kernel) ⟨Nat.le_of_ble_eq_true rfl, Nat.le_of_ble_eq_true rfl⟩) ⟨zRd_blind, zRd.at (wc := []) hK (hP.sub (ws' := []) [] rfl) (stF.now hX hS)⟩ rfl rfl hl.1 rfl (lv_room (Nat.le_of_ble_eq_true rfl)) dHA_gather_34 ⟨Nat.le_of_ble_eq_true rfl, Nat.le_of_ble_eq_true rfl⟩).run) (fun z_34 q_34 => ?_)
        obtain rfl : z_34 = ((pcN ((co i).toNat &&& (revB (k + 1) bb)) : Nat) : Int) := q_34
        refine lv_iconst (v := iI (2)) hx hb dHA_gather_37 rfl ?_
        refine lz_irem hx hb dHA_gather_38 (by omega) (by omega) ?_
        refine lz_if_ne (tgt := 53) hx hb dHA_gather_39 (by decide) (by omega) (fun c_39 => ?_) (fun c_39 => ?_)
        · have hpi : ¬ hpar co (revB (k + 1) bb) i := by unfold hpar; omega
          refine lz_iinc (lv' := [(5, .int (iI ((i : Int) + 1))), (0, .ref t), (2, .ref r), (3, .ref r2), (4, .int (iI ((revB (k + 1) bb : Nat) : Int)))]) hx hb dHA_gather_53 hl (k := 4) rfl (by decide) rfl (fun ls hl => ?_)
          refine lv_goto (tgt := 14) hx hb dHA_gather_56 (by decide) ?_
          rw [show selT ks (hpar co (revB (k + 1) bb)) i = selT ks (hpar co (revB (k + 1) bb)) (i + 1) from (selT_f hpi).symm] at hP hD hI
          exact ih14 (i + 1) f1 (by omega) hI (by omega) _ _ (hP.sub [0, 1, 2, 3, 4, 5] rfl) (hD.sub [0, 1, 2, 3, 4, 5] (by decide) rfl) hS _ (lv_sub hl [1, 2, 3, 4, 0] rfl)
        · have hpi : hpar co (revB (k + 1) bb) i := by unfold hpar; omega
          refine lv_aload_n hx hb dHA_gather_42 rfl (lv_at hl 2 rfl) ?_
          refine lv_aload_n hx hb dHA_gather_43 rfl (lv_at hl 1 rfl) ?_
          refine lv_iload hx hb dHA_gather_44 (lv_at hl 4 rfl) ?_
          refine zRI.back ((va_runV (As := [.int (iI (i : Int))]) (rest := [.ref r2]) ⟨hx, hb, hml, hown, hts⟩ (mRO_at l D cI cG r a n f ks (i : Int) h (by omega)) (cwV 1 hts (gT1 lkHA_30 (gT1 imRO_at (gT1 seRO_at (gT1 iniRO (gTW kcRO_at))))) rfl rfl rfl (by decide +kernel) ⟨Nat.le_of_ble_eq_true rfl, Nat.le_of_ble_eq_true rfl⟩) ⟨zRd_blind, va_recv hK hP (ci := 5) (q0 := 2) rfl rfl, zRd.at (wc := [(r, .inr (5, [.ref a, .int (iI (ks.length : Int))])), (a, .inl (cI, n, .inl (zf f)))]) hK (hP.sub (ws' := [(r, .inr (5, [.ref a, .int (iI (ks.length : Int))])), (a, .inl (cI, n, .inl (zf f)))]) [2, 3] rfl) (stF.now hX hS)⟩ rfl rfl hl.1 rfl (lv_room (Nat.le_of_ble_eq_true rfl)) dHA_gather_46 ⟨Nat.le_of_ble_eq_true rfl, Nat.le_of_ble_eq_true rfl⟩).run) (fun z_46 q_46 => ?_)
          obtain rfl : z_46 = ks.getD i (-1) := by have q9 : z_46 = lat ks (i : Int) := q_46; rw [q9]; exact (lat_in (by omega) (by omega)).1
          refine zI.back (va_runV (As := [.int (iI (ks.getD i (-1)))]) (rest := []) ⟨hx, hb, hml, hown, hts⟩ ((mRO_add l D cI cG r2 a2 192 f1 (selT ks (hpar co (revB (k + 1) bb)) i) (ks.getD i (-1)) hI (by have := hrg (j := i) (by omega); omega)) H.size) (cwV 1 hts (gT1 lkHA_66 (gT1 imRO_add (gT1 seRO_add (gT1 iniRO (gTW kcRO_add))))) rfl rfl rfl (by decide +kernel) ⟨Nat.le_of_ble_eq_true rfl, Nat.le_of_ble_eq_true rfl⟩) ⟨zPre_blind, va_recv hK hP (ci := 5) (q0 := 4) rfl rfl, zPre.at (wc := [(r2, .inr (5, [.ref a2, .int (iI ((selT ks (hpar co (revB (k + 1) bb)) i).length : Int))])), (a2, .inl (cI, 192, .inl (zf f1)))]) hK hP hD hS hA hX [4, 5] (by decide) rfl⟩ rfl rfl hl.1 rfl (lv_room (Nat.le_of_ble_eq_true rfl)) dHA_gather_49 ⟨Nat.le_of_ble_eq_true rfl, Nat.le_of_ble_eq_true rfl⟩) (wr := [(t, .inr (4, [.ref ca9, .int (iI (bb : Int))])), (ca9, .inl (cI, ks.length, .inl (zf co))), (r, .inr (5, [.ref a, .int (iI (ks.length : Int))])), (a, .inl (cI, n, .inl (zf f)))]) hP hD hS hA [4, 5] [0, 1, 2, 3] rfl rfl (by decide) (by decide) (fun z_49 u_49 H locs q_49 hP hD hS hz_49 hk_49 => ?_)
          obtain ⟨ks2, ho2, hs2, hcs⟩ := q_49
          have hk2 : ks2 = selT ks (hpar co (revB (k + 1) bb)) (i + 1) := by
            rcases hcs with ⟨_, q, _⟩ | ⟨_, _, q, _⟩ | ⟨_, _, _, q⟩
            · exact absurd q (selT_not h.2.2.2.1 (by omega))
            · rw [selT_len] at q; have := cnt_le (p := hpar co (revB (k + 1) bb)) i; omega
            · exact selT_ins h.2.2.2.1 (by omega) hpi ho2.2.2.2.1 q
          subst hk2
          rw [hs2] at hP hD
          clear hcs
          have hP : va_P D vwCl [(t, .inr (4, [.ref ca9, .int (iI (bb : Int))])), (ca9, .inl (cI, ks.length, .inl (zf co))), (r, .inr (5, [.ref a, .int (iI (ks.length : Int))])), (a, .inl (cI, n, .inl (zf f))), (r2, .inr (5, [.ref a2, .int (iI ((selT ks (hpar co (revB (k + 1) bb)) (i + 1)).length : Int))])), (a2, .inl (cI, 192, .inl (zf u_49.2)))] H := hP
          have hD : va_D A [(t, .inr (4, [.ref ca9, .int (iI (bb : Int))])), (ca9, .inl (cI, ks.length, .inl (zf co))), (r, .inr (5, [.ref a, .int (iI (ks.length : Int))])), (a, .inl (cI, n, .inl (zf f))), (r2, .inr (5, [.ref a2, .int (iI ((selT ks (hpar co (revB (k + 1) bb)) (i + 1)).length : Int))])), (a2, .inl (cI, 192, .inl (zf u_49.2)))] := hD
          refine lv_pop hx hb dHA_gather_52 rfl ?_
          refine lz_iinc (lv' := [(5, .int (iI ((i : Int) + 1))), (0, .ref t), (2, .ref r), (3, .ref r2), (4, .int (iI ((revB (k + 1) bb : Nat) : Int)))]) hx hb dHA_gather_53 hl (k := 4) rfl (by decide) rfl (fun ls hl => ?_)
          refine lv_goto (tgt := 14) hx hb dHA_gather_56 (by decide) ?_
          exact ih14 (i + 1) u_49.2 (by omega) ho2 (by omega) _ _ (hP.sub [0, 1, 2, 3, 4, 5] rfl) (hD.sub [0, 1, 2, 3, 4, 5] (by decide) rfl) hS _ (lv_sub hl [1, 2, 3, 4, 0] rfl)
  exact lp14 _ 0 f2 (Nat.zero_le _) hr0 (Nat.lt_succ_self _) _ _ (hP.sub [0, 1, 2, 3, 5, 4] rfl) (hD.sub [0, 1, 2, 3, 5, 4] (by decide) rfl) hS _ (lv_sub hl [2, 4, 5, 1, 0] rfl)
