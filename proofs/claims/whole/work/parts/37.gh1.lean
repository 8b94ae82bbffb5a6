/-! GroupHalls.hallAt, numberOf: written by wip/whole/gengh.py -/
def rmGH_hallAt : Room := { frames := 0, cells := 0, slots := 0, locals := 0 }
set_option maxHeartbeats 4000000 in
set_option maxRecDepth 100000 in
theorem mGH_hallAt (l : Launch) (D : va_G) (cI cG : ClassId) (gh ha ch ga : Nat) (b cl : Nat) (md cc9 : Int) (hf : Nat → Option Nat) (x : Int) (hmd : 0 ≤ md ∧ md ≤ 40) (hx1 : -2147483648 ≤ x ∧ x < 2147483648) : zRQ l yGH_hallAt wGH_hallAt rmGH_hallAt D vwCl (zT cI cG) [.ref gh, .int (iI x)] [(gh, .inr (6, [.ref ha, .int (iI md), .ref ch, .int (iI cc9), .ref b, .ref cl, .ref ga])), (ha, .inl (cG, 40, .inr (.inr (.inr (.inr hf)))))] (fun z => (0 ≤ x ∧ x < md ∧ z = hf x.toNat) ∨ (¬ (0 ≤ x ∧ x < md) ∧ z = none)) := by
  refine zRQ.of (cc := cGH_hallAt) (maxL := 2) (rt := (.object "GroupHalls$Group")) (by decide) rfl (Nat.le_of_ble_eq_true rfl) (Or.inl ⟨_, rfl⟩) ?_
  intro p e s m args below meth c ls Q hx hb hml hown hts hK hP hX hl hret
  have hS0 : va_S (fun _ => False) s.heap s.heap [] := va_S.rf
  have hl : lv_has ls 2 [(0, .ref gh), (1, .int (iI x))] := hl
  refine lv_iload_n hx hb dGH_hallAt_0 rfl (lv_at hl 1 rfl) ?_
  refine lz_if_lt (tgt := 27) hx hb dGH_hallAt_1 (by decide) (by omega) (fun c_1 => ?_) (fun c_1 => ?_)
  · refine lv_null hx hb dGH_hallAt_27 ?_
    exact hret 28 ls none (Or.inr ⟨by omega, rfl⟩) dGH_hallAt_28
  · refine lv_iload_n hx hb dGH_hallAt_4 rfl (lv_at hl 1 rfl) ?_
    refine lv_aload_n hx hb dGH_hallAt_5 rfl (lv_at hl 0 rfl) ?_
    refine va_get (D := D) (ci := 6) (v := .int (iI md)) (C := nGH) (T := fGH) (N := 7) hx hb hts iwGH hown hK hP 0 rfl rfl 1 (by decide) (hts _ (List.mem_cons_of_mem _ lkGH_15)) (fun _ h9 => h9) rfl dGH_hallAt_6 ?_
    refine lz_icmp_ge (tgt := 27) hx hb dGH_hallAt_9 (by decide) (by omega) (by omega) (fun c_9 => ?_) (fun c_9 => ?_)
    · refine lv_null hx hb dGH_hallAt_27 ?_
      exact hret 28 ls none (Or.inr ⟨by omega, rfl⟩) dGH_hallAt_28
    · refine lv_iload_n hx hb dGH_hallAt_12 rfl (lv_at hl 1 rfl) ?_
      refine lv_bipush (v := iI (40)) hx hb dGH_hallAt_13 (by decide) ?_
      refine lz_icmp_ge (tgt := 27) hx hb dGH_hallAt_15 (by decide) (by omega) (by omega) (fun c_15 => ?_) (fun c_15 => ?_)
      · refine lv_null hx hb dGH_hallAt_27 ?_
        exact hret 28 ls none (Or.inr ⟨by omega, rfl⟩) dGH_hallAt_28
      · refine lv_aload_n hx hb dGH_hallAt_18 rfl (lv_at hl 0 rfl) ?_
        refine va_get (D := D) (ci := 6) (v := .ref ha) (C := nGH) (T := fGH) (N := 7) hx hb hts iwGH hown hK hP 0 rfl rfl 0 (by decide) (hts _ (List.mem_cons_of_mem _ lkGH_11)) (fun _ h9 => h9) rfl dGH_hallAt_19 ?_
        refine lv_iload_n hx hb dGH_hallAt_22 rfl (lv_at hl 1 rfl) ?_
        refine lz_aald hx hb hK hP 1 1 rfl rfl (z := x) (by omega) dGH_hallAt_23 ?_
        refine lv_goto (tgt := 28) hx hb dGH_hallAt_24 (by decide) ?_
        exact hret 28 ls (hf (x).toNat) (Or.inl ⟨by omega, by omega, rfl⟩) dGH_hallAt_28

def rmGH_numberOf : Room := { frames := 5, cells := 3, slots := 201, locals := 119 }
set_option maxHeartbeats 4000000 in
set_option maxRecDepth 100000 in
theorem mGH_numberOf (l : Launch) (D : va_G) (cI cG : ClassId) (gh ha ch ga : Nat) (cl : Nat) (cc9 : Int) (hf : Nat → Option Nat) (r a : Nat) (f : Nat → Int) (ks : List Int) (b lf rt : Nat) (gl gr : Nat → Int) (gs : List GRec) (h : rowOK 192 f ks) (hk : gkOK ks) (hI : GInv gs hf) : zI l yGH_numberOf wGH_numberOf rmGH_numberOf D vwCl (zT cI cG) [.ref gh, .ref r] ([(gh, .inr (6, [.ref ha, .int (iI (gs.length : Int)), .ref ch, .int (iI cc9), .ref b, .ref cl, .ref ga])), (ha, .inl (cG, 40, .inr (.inr (.inr (.inr hf))))), (r, .inr (5, [.ref a, .int (iI (ks.length : Int))])), (a, .inl (cI, 192, .inl (zf f))), (b, .inr (1, [.ref lf, .ref rt])), (lf, .inl (cI, 9, .inl (zf gl))), (rt, .inl (cI, 9, .inl (zf gr)))] ++ poolW cI gs) (S := (List GRec × (Nat → Option Nat) × (Nat → Int))) (fun z u => numR (gs.map gK) ks z (u.1.map gK) ∧ GInv u.1 u.2.1) (fun u => ([(gh, .inr (6, [.ref ha, .int (iI (u.1.length : Int)), .ref ch, .int (iI cc9), .ref b, .ref cl, .ref ga])), (ha, .inl (cG, 40, .inr (.inr (.inr (.inr u.2.1))))), (r, .inr (5, [.ref a, .int (iI (ks.length : Int))])), (a, .inl (cI, 192, .inl (zf f))), (b, .inr (1, [.ref lf, .ref rt])), (lf, .inl (cI, 9, .inl (zf u.2.2))), (rt, .inl (cI, 9, .inl (zf gr)))] ++ poolW cI u.1)) := by
  refine zI.of (cc := cGH_numberOf) (maxL := 4) (rt := .int) (by decide) rfl (Nat.le_of_ble_eq_true rfl) (fun _ _ _ => rfl) ?_
  intro p e s m args below meth c A ls Q hx hb hml hown hts hnm hK hD hA hAe hX hl hret H locs hP hS
  have hl : lv_has ls 4 [(0, .ref gh), (1, .ref r)] := hl
  have hb1 := h.1
  have hgl := hI.1
  refine lv_iconst (v := iI (0)) hx hb dGH_numberOf_0 rfl ?_
  refine lv_istore_n (lv' := [(2, .int (iI 0)), (0, .ref gh), (1, .ref r)]) hx hb dGH_numberOf_1 rfl hl (by decide) rfl (fun ls hl => ?_)
  have lp2 : ∀ (n9 : Nat) (i : Nat), (i ≤ gs.length) → (∀ j, j < i → (gs.map gK)[j]? ≠ some ks) → (gs.length - i) < n9 → ∀ (H : Heap) (locs : List Loc), va_P D vwCl ([(gh, .inr (6, [.ref ha, .int (iI (gs.length : Int)), .ref ch, .int (iI cc9), .ref b, .ref cl, .ref ga])), (ha, .inl (cG, 40, .inr (.inr (.inr (.inr hf))))), (r, .inr (5, [.ref a, .int (iI (ks.length : Int))])), (a, .inl (cI, 192, .inl (zf f))), (b, .inr (1, [.ref lf, .ref rt])), (lf, .inl (cI, 9, .inl (zf gl))), (rt, .inl (cI, 9, .inl (zf gr)))] ++ poolW cI gs) H → va_D A ([(gh, .inr (6, [.ref ha, .int (iI (gs.length : Int)), .ref ch, .int (iI cc9), .ref b, .ref cl, .ref ga])), (ha, .inl (cG, 40, .inr (.inr (.inr (.inr hf))))), (r, .inr (5, [.ref a, .int (iI (ks.length : Int))])), (a, .inl (cI, 192, .inl (zf f))), (b, .inr (1, [.ref lf, .ref rt])), (lf, .inl (cI, 9, .inl (zf gl))), (rt, .inl (cI, 9, .inl (zf gr)))] ++ poolW cI gs) → va_S A s.heap H locs → ∀ (ls : Array Slot), lv_has ls 4 [(0, .ref gh), (1, .ref r), (2, .int (iI (i : Int)))] → W p l e (headSpec wGH_numberOf rmGH_numberOf).room s m args below meth c H locs 0 0 Q (F0 m 2 ls []) := by
    intro n9
    induction n9 with
    | zero => intro i hi hno hm; exact absurd hm (Nat.not_lt_zero _)
    | succ n9 ih2 =>
      intro i hi hno hm2 H locs hP hD hS ls hl
      refine lv_iload_n hx hb dGH_numberOf_2 rfl (lv_at hl 2 rfl) ?_
      refine lv_aload_n hx hb dGH_numberOf_3 rfl (lv_at hl 0 rfl) ?_
      refine va_get (D := D) (ci := 6) (v := .int (iI (gs.length : Int))) (C := nGH) (T := fGH) (N := 7) hx hb hts iwGH hown hK hP 0 rfl rfl 1 (by decide) (hts _ (List.mem_cons_of_mem _ lkGH_15)) (fun _ h9 => h9) rfl dGH_numberOf_4 ?_
      refine lz_icmp_ge (tgt := 39) hx hb dGH_numberOf_7 (by decide) (by omega) (by omega) (fun c_7 => ?_) (fun c_7 => ?_)
      · have hall : ∀ j : Nat, (gs.map gK)[j]? ≠ some ks := fun j => by
          rcases Nat.lt_or_ge j i with q | q
          · exact hno j q
          · rw [List.getElem?_eq_none (by rw [List.length_map]; omega)]; intro e; cases e
        refine lv_aload_n hx hb dGH_numberOf_39 rfl (lv_at hl 0 rfl) ?_
        refine va_get (D := D) (ci := 6) (v := .int (iI (gs.length : Int))) (C := nGH) (T := fGH) (N := 7) hx hb hts iwGH hown hK hP 0 rfl rfl 1 (by decide) (hts _ (List.mem_cons_of_mem _ lkGH_15)) (fun _ h9 => h9) rfl dGH_numberOf_40 ?_
        refine lv_bipush (v := iI (40)) hx hb dGH_numberOf_43 (by decide) ?_
        refine lz_icmp_lt (tgt := 50) hx hb dGH_numberOf_45 (by decide) (by omega) (by omega) (fun c_45 => ?_) (fun c_45 => ?_)
        · refine lv_aload_n hx hb dGH_numberOf_50 rfl (lv_at hl 0 rfl) ?_
          refine va_get (D := D) (ci := 6) (v := .ref ha) (C := nGH) (T := fGH) (N := 7) hx hb hts iwGH hown hK hP 0 rfl rfl 0 (by decide) (hts _ (List.mem_cons_of_mem _ lkGH_11)) (fun _ h9 => h9) rfl dGH_numberOf_51 ?_
          refine lv_aload_n hx hb dGH_numberOf_54 rfl (lv_at hl 0 rfl) ?_
          refine va_get (D := D) (ci := 6) (v := .int (iI (gs.length : Int))) (C := nGH) (T := fGH) (N := 7) hx hb hts iwGH hown hK hP 0 rfl rfl 1 (by decide) (hts _ (List.mem_cons_of_mem _ lkGH_15)) (fun _ h9 => h9) rfl dGH_numberOf_55 ?_
          refine va_new (ci := 3) (fs := [.null, .int (iI 0), .int (iI 0), .int (iI 0), .int (iI 0), .null, .null]) (C := nGR) (T := fGR) (N := 7) hx hb hts iwGR tGR tkGR hown (hts _ (List.mem_cons_of_mem _ lkGH_9)) (hts _ (List.mem_cons_of_mem _ insGR)) (hts _ (List.mem_cons_of_mem _ iniGR)) hK hP hD hS hA rfl (fun j hj => by rcases (show j = 0 ∨ j = 1 ∨ j = 2 ∨ j = 3 ∨ j = 4 ∨ j = 5 ∨ j = 6 by omega) with rfl | rfl | rfl | rfl | rfl | rfl | rfl <;> rfl) (Nat.le_of_ble_eq_true rfl) (Nat.le_of_ble_eq_true rfl) dGH_numberOf_58 (fun gn H hP hD hS => ?_)
          have hP := zP_perm (zperm_snoc (X := [(gh, .inr (6, [.ref ha, .int (iI (gs.length : Int)), .ref ch, .int (iI cc9), .ref b, .ref cl, .ref ga])), (ha, .inl (cG, 40, .inr (.inr (.inr (.inr hf))))), (r, .inr (5, [.ref a, .int (iI (ks.length : Int))])), (a, .inl (cI, 192, .inl (zf f))), (b, .inr (1, [.ref lf, .ref rt])), (lf, .inl (cI, 9, .inl (zf gl))), (rt, .inl (cI, 9, .inl (zf gr)))])) hP
          have hD := zD_perm (zperm_snoc (X := [(gh, .inr (6, [.ref ha, .int (iI (gs.length : Int)), .ref ch, .int (iI cc9), .ref b, .ref cl, .ref ga])), (ha, .inl (cG, 40, .inr (.inr (.inr (.inr hf))))), (r, .inr (5, [.ref a, .int (iI (ks.length : Int))])), (a, .inl (cI, 192, .inl (zf f))), (b, .inr (1, [.ref lf, .ref rt])), (lf, .inl (cI, 9, .inl (zf gl))), (rt, .inl (cI, 9, .inl (zf gr)))])) hD
          have hP : va_P D vwCl ([(gh, .inr (6, [.ref ha, .int (iI (gs.length : Int)), .ref ch, .int (iI cc9), .ref b, .ref cl, .ref ga])), (ha, .inl (cG, 40, .inr (.inr (.inr (.inr hf))))), (r, .inr (5, [.ref a, .int (iI (ks.length : Int))])), (a, .inl (cI, 192, .inl (zf f))), (b, .inr (1, [.ref lf, .ref rt])), (lf, .inl (cI, 9, .inl (zf gl))), (rt, .inl (cI, 9, .inl (zf gr))), (gn, .inr (3, [.null, .int (iI 0), .int (iI 0), .int (iI 0), .int (iI 0), .null, .null]))] ++ poolW cI gs) H := hP
          have hD : va_D A ([(gh, .inr (6, [.ref ha, .int (iI (gs.length : Int)), .ref ch, .int (iI cc9), .ref b, .ref cl, .ref ga])), (ha, .inl (cG, 40, .inr (.inr (.inr (.inr hf))))), (r, .inr (5, [.ref a, .int (iI (ks.length : Int))])), (a, .inl (cI, 192, .inl (zf f))), (b, .inr (1, [.ref lf, .ref rt])), (lf, .inl (cI, 9, .inl (zf gl))), (rt, .inl (cI, 9, .inl (zf gr))), (gn, .inr (3, [.null, .int (iI 0), .int (iI 0), .int (iI 0), .int (iI 0), .null, .null]))] ++ poolW cI gs) := hD
          refine lv_dup hx hb dGH_numberOf_61 rfl ?_
          refine lv_aload_n hx hb dGH_numberOf_62 rfl (lv_at hl 1 rfl) ?_
          refine lv_aload_n hx hb dGH_numberOf_63 rfl (lv_at hl 0 rfl) ?_
          refine va_get (D := D) (ci := 6) (v := .ref b) (C := nGH) (T := fGH) (N := 7) hx hb hts iwGH hown hK hP 0 rfl rfl 4 (by decide) (hts _ (List.mem_cons_of_mem _ lkGH_29)) (fun _ h9 => h9) rfl dGH_numberOf_64 ?_
          refine zV.backT (va_runI (As := [.ref r, .ref b]) (rest := [.ref gn, .int (iI (gs.length : Int)), .ref ha]) ⟨hx, hb, hml, hown, hts⟩ ((mGR_init l D cI cG gn r a 192 f ks b lf rt gl gr h hk.2.2.1 hk.2.2.2) H.size) (cwI 2 hts (gTW kcGR_init) rfl rfl rfl (hts _ (List.mem_cons_of_mem _ iniGR)) (hts _ (List.mem_cons_of_mem _ lkGH_162)) (hts _ (List.mem_cons_of_mem _ imGR_init)) rfl (by decide +kernel) ⟨Nat.le_of_ble_eq_true rfl, Nat.le_of_ble_eq_true rfl⟩) ⟨zPre_blind, zPre.at (wc := [(gn, .inr (3, [.null, .int (iI 0), .int (iI 0), .int (iI 0), .int (iI 0), .null, .null])), (r, .inr (5, [.ref a, .int (iI (ks.length : Int))])), (a, .inl (cI, 192, .inl (zf f))), (b, .inr (1, [.ref lf, .ref rt])), (lf, .inl (cI, 9, .inl (zf gl))), (rt, .inl (cI, 9, .inl (zf gr)))]) hK hP hD hS hA hX [7, 2, 3, 4, 5, 6] (by decide) rfl⟩ rfl rfl hl.1 rfl (lv_room (Nat.le_of_ble_eq_true rfl)) dGH_numberOf_67 ⟨Nat.le_of_ble_eq_true rfl, Nat.le_of_ble_eq_true rfl⟩) (X := [(gh, .inr (6, [.ref ha, .int (iI (gs.length : Int)), .ref ch, .int (iI cc9), .ref b, .ref cl, .ref ga])), (ha, .inl (cG, 40, .inr (.inr (.inr (.inr hf))))), (r, .inr (5, [.ref a, .int (iI (ks.length : Int))])), (a, .inl (cI, 192, .inl (zf f))), (b, .inr (1, [.ref lf, .ref rt])), (lf, .inl (cI, 9, .inl (zf gl))), (rt, .inl (cI, 9, .inl (zf gr))), (gn, .inr (3, [.null, .int (iI 0), .int (iI 0), .int (iI 0), .int (iI 0), .null, .null]))]) (pl := poolW cI gs) (wr := [(gh, .inr (6, [.ref ha, .int (iI (gs.length : Int)), .ref ch, .int (iI cc9), .ref b, .ref cl, .ref ga])), (ha, .inl (cG, 40, .inr (.inr (.inr (.inr hf)))))]) hP hD hS hA [7, 2, 3, 4, 5, 6] [0, 1] rfl rfl rfl (by decide) (by decide) (fun u_67 H locs q_67 hP hD hS hz_67 hk_67 => ?_)
          obtain ⟨kn, kan, fkn, ltn, pcn, gln⟩ := u_67
          obtain ⟨w1, w2, w3⟩ := q_67
          have hP : va_P D vwCl ([(gh, .inr (6, [.ref ha, .int (iI (gs.length : Int)), .ref ch, .int (iI cc9), .ref b, .ref cl, .ref ga])), (ha, .inl (cG, 40, .inr (.inr (.inr (.inr hf))))), (gn, .inr (3, [.ref kn, .int (iI (matT ks ks.length)), .int (iI (cenT ks ks.length)), .int (iI ltn), .int (iI pcn), .null, .null])), (r, .inr (5, [.ref a, .int (iI (ks.length : Int))])), (a, .inl (cI, 192, .inl (zf f))), (b, .inr (1, [.ref lf, .ref rt])), (lf, .inl (cI, 9, .inl (zf gln))), (rt, .inl (cI, 9, .inl (zf gr))), (kn, .inr (5, [.ref kan, .int (iI (ks.length : Int))])), (kan, .inl (cI, ks.length, .inl (zf fkn)))] ++ poolW cI gs) H := hP
          have hD : va_D A ([(gh, .inr (6, [.ref ha, .int (iI (gs.length : Int)), .ref ch, .int (iI cc9), .ref b, .ref cl, .ref ga])), (ha, .inl (cG, 40, .inr (.inr (.inr (.inr hf))))), (gn, .inr (3, [.ref kn, .int (iI (matT ks ks.length)), .int (iI (cenT ks ks.length)), .int (iI ltn), .int (iI pcn), .null, .null])), (r, .inr (5, [.ref a, .int (iI (ks.length : Int))])), (a, .inl (cI, 192, .inl (zf f))), (b, .inr (1, [.ref lf, .ref rt])), (lf, .inl (cI, 9, .inl (zf gln))), (rt, .inl (cI, 9, .inl (zf gr))), (kn, .inr (5, [.ref kan, .int (iI (ks.length : Int))])), (kan, .inl (cI, ks.length, .inl (zf fkn)))] ++ poolW cI gs) := hD
          refine lz_aast hx hb hK hP hD hS 1 1 2 3 rfl rfl rfl rfl (z := (gs.length : Int)) (by omega) dGH_numberOf_70 (fun H locs hP hD hS => ?_)
          have hP : va_P D vwCl ([(gh, .inr (6, [.ref ha, .int (iI (gs.length : Int)), .ref ch, .int (iI cc9), .ref b, .ref cl, .ref ga])), (ha, .inl (cG, 40, .inr (.inr (.inr (.inr (va_up hf ((gs.length : Int)).toNat (some gn))))))), (gn, .inr (3, [.ref kn, .int (iI (matT ks ks.length)), .int (iI (cenT ks ks.length)), .int (iI ltn), .int (iI pcn), .null, .null])), (r, .inr (5, [.ref a, .int (iI (ks.length : Int))])), (a, .inl (cI, 192, .inl (zf f))), (b, .inr (1, [.ref lf, .ref rt])), (lf, .inl (cI, 9, .inl (zf gln))), (rt, .inl (cI, 9, .inl (zf gr))), (kn, .inr (5, [.ref kan, .int (iI (ks.length : Int))])), (kan, .inl (cI, ks.length, .inl (zf fkn)))] ++ poolW cI gs) H := hP
          have hD : va_D A ([(gh, .inr (6, [.ref ha, .int (iI (gs.length : Int)), .ref ch, .int (iI cc9), .ref b, .ref cl, .ref ga])), (ha, .inl (cG, 40, .inr (.inr (.inr (.inr (va_up hf ((gs.length : Int)).toNat (some gn))))))), (gn, .inr (3, [.ref kn, .int (iI (matT ks ks.length)), .int (iI (cenT ks ks.length)), .int (iI ltn), .int (iI pcn), .null, .null])), (r, .inr (5, [.ref a, .int (iI (ks.length : Int))])), (a, .inl (cI, 192, .inl (zf f))), (b, .inr (1, [.ref lf, .ref rt])), (lf, .inl (cI, 9, .inl (zf gln))), (rt, .inl (cI, 9, .inl (zf gr))), (kn, .inr (5, [.ref kan, .int (iI (ks.length : Int))])), (kan, .inl (cI, ks.length, .inl (zf fkn)))] ++ poolW cI gs) := hD
          refine lv_aload_n hx hb dGH_numberOf_71 rfl (lv_at hl 0 rfl) ?_
          refine lv_dup hx hb dGH_numberOf_72 rfl ?_
          refine va_get (D := D) (ci := 6) (v := .int (iI (gs.length : Int))) (C := nGH) (T := fGH) (N := 7) hx hb hts iwGH hown hK hP 0 rfl rfl 1 (by decide) (hts _ (List.mem_cons_of_mem _ lkGH_15)) (fun _ h9 => h9) rfl dGH_numberOf_73 ?_
          refine lv_iconst (v := iI (1)) hx hb dGH_numberOf_76 rfl ?_
          refine lz_iadd hx hb dGH_numberOf_77 ?_
          refine va_put (D := D) (ci := 6) (v := .int (iI ((gs.length : Int) + 1))) (ty := .int) (C := nGH) (T := fGH) (N := 7) hx hb hts iwGH tGH tkGH nmGH hown hK hP hD hS 0 rfl rfl 1 (by decide) (hts _ (List.mem_cons_of_mem _ lkGH_15)) (fun _ h9 => h9) rfl (by decide +kernel) rfl rfl (Nat.le_of_ble_eq_true rfl) dGH_numberOf_78 (fun H locs hP hD hS => ?_)
          have hP : va_P D vwCl ([(gh, .inr (6, [.ref ha, .int (iI ((gs.length : Int) + 1)), .ref ch, .int (iI cc9), .ref b, .ref cl, .ref ga])), (ha, .inl (cG, 40, .inr (.inr (.inr (.inr (va_up hf ((gs.length : Int)).toNat (some gn))))))), (gn, .inr (3, [.ref kn, .int (iI (matT ks ks.length)), .int (iI (cenT ks ks.length)), .int (iI ltn), .int (iI pcn), .null, .null])), (r, .inr (5, [.ref a, .int (iI (ks.length : Int))])), (a, .inl (cI, 192, .inl (zf f))), (b, .inr (1, [.ref lf, .ref rt])), (lf, .inl (cI, 9, .inl (zf gln))), (rt, .inl (cI, 9, .inl (zf gr))), (kn, .inr (5, [.ref kan, .int (iI (ks.length : Int))])), (kan, .inl (cI, ks.length, .inl (zf fkn)))] ++ poolW cI gs) H := hP
          have hD : va_D A ([(gh, .inr (6, [.ref ha, .int (iI ((gs.length : Int) + 1)), .ref ch, .int (iI cc9), .ref b, .ref cl, .ref ga])), (ha, .inl (cG, 40, .inr (.inr (.inr (.inr (va_up hf ((gs.length : Int)).toNat (some gn))))))), (gn, .inr (3, [.ref kn, .int (iI (matT ks ks.length)), .int (iI (cenT ks ks.length)), .int (iI ltn), .int (iI pcn), .null, .null])), (r, .inr (5, [.ref a, .int (iI (ks.length : Int))])), (a, .inl (cI, 192, .inl (zf f))), (b, .inr (1, [.ref lf, .ref rt])), (lf, .inl (cI, 9, .inl (zf gln))), (rt, .inl (cI, 9, .inl (zf gr))), (kn, .inr (5, [.ref kan, .int (iI (ks.length : Int))])), (kan, .inl (cI, ks.length, .inl (zf fkn)))] ++ poolW cI gs) := hD
          refine lv_aload_n hx hb dGH_numberOf_81 rfl (lv_at hl 0 rfl) ?_
          refine va_get (D := D) (ci := 6) (v := .int (iI ((gs.length : Int) + 1))) (C := nGH) (T := fGH) (N := 7) hx hb hts iwGH hown hK hP 0 rfl rfl 1 (by decide) (hts _ (List.mem_cons_of_mem _ lkGH_15)) (fun _ h9 => h9) rfl dGH_numberOf_82 ?_
          refine lv_iconst (v := iI (1)) hx hb dGH_numberOf_85 rfl ?_
          refine lz_isub hx hb dGH_numberOf_86 ?_
          have hnq : gOK (gn, kn, kan, ks, fkn, ltn, pcn, none, none) := ⟨hk, w1, w2, w3, trivial, trivial⟩
          have hI2 := hI.push (q := (gn, kn, kan, ks, fkn, ltn, pcn, none, none)) (by omega) hnq
          have hll : ((gs ++ [((gn, kn, kan, ks, fkn, ltn, pcn, none, none) : GRec)]).length : Int) = (gs.length : Int) + 1 := by rw [List.length_append]; rfl
          have hP9 := zP_subT (X' := [(gh, .inr (6, [.ref ha, .int (iI ((gs.length : Int) + 1)), .ref ch, .int (iI cc9), .ref b, .ref cl, .ref ga])), (ha, .inl (cG, 40, .inr (.inr (.inr (.inr (va_up hf ((gs.length : Int)).toNat (some gn))))))), (r, .inr (5, [.ref a, .int (iI (ks.length : Int))])), (a, .inl (cI, 192, .inl (zf f))), (b, .inr (1, [.ref lf, .ref rt])), (lf, .inl (cI, 9, .inl (zf gln))), (rt, .inl (cI, 9, .inl (zf gr))), (gn, .inr (3, [.ref kn, .int (iI (matT ks ks.length)), .int (iI (cenT ks ks.length)), .int (iI ltn), .int (iI pcn), .null, .null])), (kn, .inr (5, [.ref kan, .int (iI (ks.length : Int))])), (kan, .inl (cI, ks.length, .inl (zf fkn)))]) hP [0, 1, 3, 4, 5, 6, 7, 2, 8, 9] rfl
          have hD9 := zD_subT (X' := [(gh, .inr (6, [.ref ha, .int (iI ((gs.length : Int) + 1)), .ref ch, .int (iI cc9), .ref b, .ref cl, .ref ga])), (ha, .inl (cG, 40, .inr (.inr (.inr (.inr (va_up hf ((gs.length : Int)).toNat (some gn))))))), (r, .inr (5, [.ref a, .int (iI (ks.length : Int))])), (a, .inl (cI, 192, .inl (zf f))), (b, .inr (1, [.ref lf, .ref rt])), (lf, .inl (cI, 9, .inl (zf gln))), (rt, .inl (cI, 9, .inl (zf gr))), (gn, .inr (3, [.ref kn, .int (iI (matT ks ks.length)), .int (iI (cenT ks ks.length)), .int (iI ltn), .int (iI pcn), .null, .null])), (kn, .inr (5, [.ref kan, .int (iI (ks.length : Int))])), (kan, .inl (cI, ks.length, .inl (zf fkn)))]) hD [0, 1, 3, 4, 5, 6, 7, 2, 8, 9] (by decide) rfl
          skip
          refine W.eq rfl ?_
          rw [show ((gs.length : Int) + 1) - 1 = (gs.length : Int) by omega]
          exact hret H locs (0 + 1 + 2) (0 + 7 + 194) 87 ls (gs.length : Int) (gs ++ [(gn, kn, kan, ks, fkn, ltn, pcn, none, none)], va_up hf gs.length (some gn), gln) ⟨Or.inr (Or.inr ⟨hall, by rw [List.length_map]; omega, by rw [List.length_map], by rw [List.map_append]; rfl⟩), hI2⟩ (by rw [pool_push, hll]; exact zP_perm zperm_end hP9) (by rw [pool_push, hll]; exact zD_perm zperm_end hD9) hS (by decide) (by decide) dGH_numberOf_87
        · refine lv_iconst (v := iI (-1)) hx hb dGH_numberOf_48 rfl ?_
          exact hret H locs 0 0 49 ls (-1) (gs, hf, gl) ⟨Or.inr (Or.inl ⟨hall, by rw [List.length_map]; omega, rfl, rfl⟩), hI⟩ (zP_subT hP [0, 1, 2, 3, 4, 5, 6] rfl) (zD_subT hD [0, 1, 2, 3, 4, 5, 6] (by decide) rfl) hS (Nat.zero_le _) (Nat.zero_le _) dGH_numberOf_49
      · refine lv_aload_n hx hb dGH_numberOf_10 rfl (lv_at hl 0 rfl) ?_
        refine lv_iload_n hx hb dGH_numberOf_11 rfl (lv_at hl 2 rfl) ?_
        refine zRQ.back ((va_runV (As := [.int (iI (i : Int))]) (rest := []) ⟨hx, hb, hml, hown, hts⟩ (mGH_hallAt l D cI cG gh ha ch ga b cl (gs.length : Int) cc9 hf (i : Int) (by omega) (by omega)) (cwV 1 hts (gT1 lkGH_76 (gT1 imGH_hallAt (gT1 seGH_hallAt (gT1 iniGH (gTW kcGH_hallAt))))) rfl rfl rfl (by decide +kernel) ⟨Nat.le_of_ble_eq_true rfl, Nat.le_of_ble_eq_true rfl⟩) ⟨zRd_blind, va_recv hK hP (ci := 6) (q0 := 0) rfl rfl, zRd.at (wc := [(gh, .inr (6, [.ref ha, .int (iI (gs.length : Int)), .ref ch, .int (iI cc9), .ref b, .ref cl, .ref ga])), (ha, .inl (cG, 40, .inr (.inr (.inr (.inr hf)))))]) hK (hP.sub (ws' := [(gh, .inr (6, [.ref ha, .int (iI (gs.length : Int)), .ref ch, .int (iI cc9), .ref b, .ref cl, .ref ga])), (ha, .inl (cG, 40, .inr (.inr (.inr (.inr hf)))))]) [0, 1] rfl) (stF.now hX hS)⟩ rfl rfl hl.1 rfl (lv_room (Nat.le_of_ble_eq_true rfl)) dGH_numberOf_12 ⟨Nat.le_of_ble_eq_true rfl, Nat.le_of_ble_eq_true rfl⟩).run) (fun r_12 q_12 => ?_)
        obtain ⟨⟨g, k, ka, ks1, fk, lt, pcl, al, hv⟩, hqi⟩ := gs_at (gs := gs) (i := i) (by omega)
        have hqo := hI.2.2 _ (List.mem_of_getElem? hqi)
        obtain ⟨hq1, hq2, hq3, hq4, hq5, hq6⟩ := id hqo
        have hrg : r_12 = some g := by
          rcases q_12 with ⟨_, _, e⟩ | ⟨q, _⟩
          · rw [e]; exact hI.2.1 i _ hqi
          · exact absurd ⟨by omega, by omega⟩ q
        subst hrg
        have hPg : va_P D vwCl [(g, .inr (3, [.ref k, .int (iI (matT ks1 ks1.length)), .int (iI (cenT ks1 ks1.length)), .int (iI lt), .int (iI pcl), va_rf (al.map (fun a => a.1)), va_rf (hv.map (fun a => a.1))])), (k, .inr (5, [.ref ka, .int (iI (ks1.length : Int))])), (ka, .inl (cI, ks1.length, .inl (zf fk)))] H := zP_mem hP (fun c hc => List.mem_append_right _ (mem_pool (List.mem_of_getElem? hqi) c (List.mem_append_left _ hc)))
        refine lv_astore_n (lv' := [(3, .ref g), (0, .ref gh), (1, .ref r), (2, .int (iI (i : Int)))]) hx hb dGH_numberOf_15 rfl hl (by decide) rfl (fun ls hl => ?_)
        refine lv_aload_n hx hb dGH_numberOf_16 rfl (lv_at hl 0 rfl) ?_
        refine lv_ifnull hx hb dGH_numberOf_17 ?_
        refine lv_aload_n hx hb dGH_numberOf_20 rfl (lv_at hl 0 rfl) ?_
        refine zRQ.back ((va_runV (As := []) (rest := []) ⟨hx, hb, hml, hown, hts⟩ (mGR_keys l D cI cG g k ka (matT ks1 ks1.length) (cenT ks1 ks1.length) lt pcl (al.map (fun a => a.1)) (hv.map (fun a => a.1))) (cwV 0 hts (gT1 lkGH_80 (gT1 imGR_keys (gT1 seGR_keys (gT1 iniGR (gTW kcGR_keys))))) rfl rfl rfl (by decide +kernel) ⟨Nat.le_of_ble_eq_true rfl, Nat.le_of_ble_eq_true rfl⟩) ⟨zRd_blind, va_recv hK hPg (ci := 3) (q0 := 0) rfl rfl, zRd.at (wc := [(g, .inr (3, [.ref k, .int (iI (matT ks1 ks1.length)), .int (iI (cenT ks1 ks1.length)), .int (iI lt), .int (iI pcl), va_rf (al.map (fun a => a.1)), va_rf (hv.map (fun a => a.1))]))]) hK (hPg.sub (ws' := [(g, .inr (3, [.ref k, .int (iI (matT ks1 ks1.length)), .int (iI (cenT ks1 ks1.length)), .int (iI lt), .int (iI pcl), va_rf (al.map (fun a => a.1)), va_rf (hv.map (fun a => a.1))]))]) [0] rfl) (stF.now hX hS)⟩ rfl rfl hl.1 rfl (lv_room (Nat.le_of_ble_eq_true rfl)) dGH_numberOf_21 ⟨Nat.le_of_ble_eq_true rfl, Nat.le_of_ble_eq_true rfl⟩).run) (fun r_21 q_21 => ?_)
        obtain rfl : r_21 = some k := q_21
        refine lv_aload_n hx hb dGH_numberOf_24 rfl (lv_at hl 2 rfl) ?_
        have hPl : va_P D vwCl [(k, .inr (5, [.ref ka, .int (iI (ks1.length : Int))])), (ka, .inl (cI, ks1.length, .inl (zf fk))), (r, .inr (5, [.ref a, .int (iI (ks.length : Int))])), (a, .inl (cI, 192, .inl (zf f)))] H := (hPg.sub [1, 2] rfl).app (hP.sub [2, 3] rfl)
        refine zRI.back ((va_runV (As := [.ref r]) (rest := []) ⟨hx, hb, hml, hown, hts⟩ (mRO_isLike l D cI cG k ka ks1.length fk ks1 r a 192 f ks hq2 h) (cwV 1 hts (gT1 lkGH_158 (gT1 imRO_isLike (gT1 seRO_isLike (gT1 iniRO (gTW kcRO_isLike))))) rfl rfl rfl (by decide +kernel) ⟨Nat.le_of_ble_eq_true rfl, Nat.le_of_ble_eq_true rfl⟩) ⟨zRd_blind, va_recv hK hPl (ci := 5) (q0 := 0) rfl rfl, zRd.at (wc := [(k, .inr (5, [.ref ka, .int (iI (ks1.length : Int))])), (ka, .inl (cI, ks1.length, .inl (zf fk))), (r, .inr (5, [.ref a, .int (iI (ks.length : Int))])), (a, .inl (cI, 192, .inl (zf f)))]) hK (hPl.sub (ws' := [(k, .inr (5, [.ref ka, .int (iI (ks1.length : Int))])), (ka, .inl (cI, ks1.length, .inl (zf fk))), (r, .inr (5, [.ref a, .int (iI (ks.length : Int))])), (a, .inl (cI, 192, .inl (zf f)))]) [0, 1, 2, 3] rfl) (stF.now hX hS)⟩ rfl rfl hl.1 rfl (lv_room (Nat.le_of_ble_eq_true rfl)) dGH_numberOf_25 ⟨Nat.le_of_ble_eq_true rfl, Nat.le_of_ble_eq_true rfl⟩).run) (fun z_25 q_25 => ?_)
        have q_25 : (z_25 = 1 ∧ ks1 = ks) ∨ (z_25 = 0 ∧ ks1 ≠ ks) := q_25
        refine lz_if_eq (tgt := 33) hx hb dGH_numberOf_28 (by decide) (by rcases q_25 with ⟨q, _⟩ | ⟨q, _⟩ <;> omega) (fun c_28 => ?_) (fun c_28 => ?_)
        · refine lz_iinc (lv' := [(2, .int (iI ((i : Int) + 1))), (3, .ref g), (0, .ref gh), (1, .ref r)]) hx hb dGH_numberOf_33 hl (k := 3) rfl (by decide) rfl (fun ls hl => ?_)
          refine lv_goto (tgt := 2) hx hb dGH_numberOf_36 (by decide) ?_
          exact ih2 (i + 1) (by omega) (fun j hj => by
              rcases Nat.lt_or_ge j i with q | q
              · exact hno j q
              · obtain rfl : j = i := by omega
                rw [List.getElem?_map, hqi]
                intro e
                rcases q_25 with ⟨q9, _⟩ | ⟨_, q9⟩
                · omega
                · exact q9 (Option.some.inj e)) (by omega) _ _ (zP_subT hP [0, 1, 2, 3, 4, 5, 6] rfl) (zD_subT hD [0, 1, 2, 3, 4, 5, 6] (by decide) rfl) hS _ (lv_sub hl [2, 3, 0] rfl)
        · have heq : ks1 = ks := by rcases q_25 with ⟨_, q⟩ | ⟨q, _⟩ <;> first | exact q | omega
          refine lv_iload_n hx hb dGH_numberOf_31 rfl (lv_at hl 3 rfl) ?_
          exact hret H locs 0 0 32 ls (i : Int) (gs, hf, gl) ⟨Or.inl ⟨i, by rw [List.length_map]; omega, by rw [List.getElem?_map, hqi]; exact congrArg some heq, hno, rfl, rfl⟩, hI⟩ (zP_subT hP [0, 1, 2, 3, 4, 5, 6] rfl) (zD_subT hD [0, 1, 2, 3, 4, 5, 6] (by decide) rfl) hS (Nat.zero_le _) (Nat.zero_le _) dGH_numberOf_32
  exact lp2 _ 0 (Nat.zero_le _) (fun j hj => absurd hj (Nat.not_lt_zero _)) (Nat.lt_succ_self _) _ _ (zP_subT hP [0, 1, 2, 3, 4, 5, 6] rfl) (zD_subT hD [0, 1, 2, 3, 4, 5, 6] (by decide) rfl) hS _ (lv_sub hl [1, 2, 0] rfl)
