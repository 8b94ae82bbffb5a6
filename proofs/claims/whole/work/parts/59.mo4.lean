/-! GroupHallsModel: taken, keepersOf, orbitOf: written by wip/whole -/
def rmMO_taken : Room := { frames := 1, cells := 0, slots := 0, locals := 25 }
set_option maxHeartbeats 4000000 in
set_option maxRecDepth 100000 in
theorem mMO_taken (l : Launch) (D : va_G) (cI cJ cZ : ClassId) (q : MoA) (cn gn ln : Int) (op pl : Int) (fa ga : Nat → Int) (ho : kOK op) (hp : isPl pl) : zI l yMO_taken wMO_taken rmMO_taken D vwCl (zM cI cJ cZ) [.ref q.mo, .int (iI op), .int (iI pl)] [(moC q cn gn ln), (q.xa, .inl (cI, 9, .inl (zf fa))), (q.ya, .inl (cI, 3, .inl (zf ga)))] (S := ((Nat → Int) × (Nat → Int))) (fun z u => z = movK op pl) (fun u => [(moC q cn gn ln), (q.xa, .inl (cI, 9, .inl (zf u.1))), (q.ya, .inl (cI, 3, .inl (zf u.2)))]) := by
  refine zI.of (cc := cMO_taken) (maxL := 9) (rt := .int) (by decide) rfl (Nat.le_of_ble_eq_true rfl) (fun _ _ _ => rfl) ?_
  intro p e s m args below meth c A ls Q hx hb hml hown hts hnm hK hD hA hAe hX hl hret H locs hP hS
  have hl : lv_has ls 9 [(0, .ref q.mo), (1, .int (iI op)), (2, .int (iI pl))] := hl
  have hp9 := hp
  unfold isPl at hp9
  refine lv_iload_n hx hb dMO_taken_0 rfl (lv_at hl 1 rfl) ?_
  refine lv_aload_n hx hb dMO_taken_1 rfl (lv_at hl 0 rfl) ?_
  refine va_get (D := D) (ci := 7) (v := .ref q.xa) (C := nMO) (T := fMO) (N := 24) hx hb hts iwMO hown hK hP 0 rfl rfl 0 (by decide) (hts _ (List.mem_cons_of_mem _ lkMO_7)) (fun _ h9 => h9) rfl dMO_taken_2 ?_
  refine lv_aload_n hx hb dMO_taken_5 rfl (lv_at hl 0 rfl) ?_
  refine va_get (D := D) (ci := 7) (v := .ref q.ya) (C := nMO) (T := fMO) (N := 24) hx hb hts iwMO hown hK hP 0 rfl rfl 1 (by decide) (hts _ (List.mem_cons_of_mem _ lkMO_13)) (fun _ h9 => h9) rfl dMO_taken_6 ?_
  refine zV.back (va_runS (As := [.int (iI op), .ref q.xa, .ref q.ya]) (rest := []) ⟨hx, hb, hml, hown, hts⟩ ((mMO_open l D cI cJ cZ op q.xa q.ya fa ga ho) H.size) (va_cwS 3 hts (gT1 lkMO_76 (gT1 smMO_open (gT1 iniMO (gTW kcMO_open)))) rfl rfl rfl (by decide +kernel) ⟨Nat.le_of_ble_eq_true rfl, Nat.le_of_ble_eq_true rfl⟩) ⟨zPre_blind, zPre.at (wc := [(q.xa, .inl (cI, 9, .inl (zf fa))), (q.ya, .inl (cI, 3, .inl (zf ga)))]) hK hP hD hS hA hX [1, 2] (by decide) rfl⟩ rfl rfl hl.1 rfl (lv_room (Nat.le_of_ble_eq_true rfl)) dMO_taken_9 ⟨Nat.le_of_ble_eq_true rfl, Nat.le_of_ble_eq_true rfl⟩) (wr := [(moC q cn gn ln)]) hP hD hS hA [1, 2] [0] rfl rfl (by decide) (by decide) (fun u_9 H locs q_9 hP hD hS hz_9 hk_9 => ?_)
  obtain ⟨f1, g1⟩ := u_9
  obtain ⟨hf1, hg1⟩ := q_9
  have hf1 : ∀ j, j < 9 → f1 j = mdg op j := hf1
  have hg1 : ∀ j, j < 3 → g1 j = sdg op j := hg1
  have hP : va_P D vwCl [(moC q cn gn ln), (q.xa, .inl (cI, 9, .inl (zf f1))), (q.ya, .inl (cI, 3, .inl (zf g1)))] H := hP
  have hD : va_D A [(moC q cn gn ln), (q.xa, .inl (cI, 9, .inl (zf f1))), (q.ya, .inl (cI, 3, .inl (zf g1)))] := hD
  refine lv_iload_n hx hb dMO_taken_12 rfl (lv_at hl 2 rfl) ?_
  refine lv_sipush (v := iI (576)) hx hb dMO_taken_13 (by decide) ?_
  refine lz_idiv hx hb dMO_taken_16 (by omega) (by omega) ?_
  refine lz_as (x := pl / 576) (y := pX pl) (rfl) ?_
  refine lv_istore_n (lv' := [(3, .int (iI (pX pl))), (0, .ref q.mo), (1, .int (iI op)), (2, .int (iI pl))]) hx hb dMO_taken_17 rfl hl (by decide) rfl (fun ls hl => ?_)
  refine lv_iload_n hx hb dMO_taken_18 rfl (lv_at hl 3 rfl) ?_
  refine lv_bipush (v := iI (24)) hx hb dMO_taken_19 (by decide) ?_
  refine lz_idiv hx hb dMO_taken_21 (by omega) (by omega) ?_
  refine lv_bipush (v := iI (24)) hx hb dMO_taken_22 (by decide) ?_
  refine lz_irem hx hb dMO_taken_24 (by omega) (by omega) ?_
  refine lz_as (x := (pl / 24) % 24) (y := pY pl) (rfl) ?_
  refine lv_istore (lv' := [(4, .int (iI (pY pl))), (3, .int (iI (pX pl))), (0, .ref q.mo), (1, .int (iI op)), (2, .int (iI pl))]) hx hb dMO_taken_25 hl (by decide) rfl (fun ls hl => ?_)
  refine lv_iload_n hx hb dMO_taken_27 rfl (lv_at hl 4 rfl) ?_
  refine lv_bipush (v := iI (24)) hx hb dMO_taken_28 (by decide) ?_
  refine lz_irem hx hb dMO_taken_30 (by omega) (by omega) ?_
  refine lz_as (x := pl % 24) (y := pZ pl) (rfl) ?_
  refine lv_istore (lv' := [(5, .int (iI (pZ pl))), (4, .int (iI (pY pl))), (3, .int (iI (pX pl))), (0, .ref q.mo), (1, .int (iI op)), (2, .int (iI pl))]) hx hb dMO_taken_31 hl (by decide) rfl (fun ls hl => ?_)
  refine lv_iconst (v := iI (0)) hx hb dMO_taken_33 rfl ?_
  refine lv_istore (lv' := [(6, .int (iI 0)), (5, .int (iI (pZ pl))), (4, .int (iI (pY pl))), (3, .int (iI (pX pl))), (0, .ref q.mo), (1, .int (iI op)), (2, .int (iI pl))]) hx hb dMO_taken_34 hl (by decide) rfl (fun ls hl => ?_)
  refine lv_iconst (v := iI (0)) hx hb dMO_taken_36 rfl ?_
  refine lv_istore (lv' := [(7, .int (iI 0)), (6, .int (iI 0)), (5, .int (iI (pZ pl))), (4, .int (iI (pY pl))), (3, .int (iI (pX pl))), (0, .ref q.mo), (1, .int (iI op)), (2, .int (iI pl))]) hx hb dMO_taken_37 hl (by decide) rfl (fun ls hl => ?_)
  have lp39 : ∀ (n9 : Nat) (i : Nat), (i ≤ 3) → (3 - i) < n9 → ∀ (H : Heap) (locs : List Loc), va_P D vwCl [(moC q cn gn ln), (q.xa, .inl (cI, 9, .inl (zf f1))), (q.ya, .inl (cI, 3, .inl (zf g1)))] H → va_D A [(moC q cn gn ln), (q.xa, .inl (cI, 9, .inl (zf f1))), (q.ya, .inl (cI, 3, .inl (zf g1)))] → va_S A s.heap H locs → ∀ (ls : Array Slot), lv_has ls 9 [(0, .ref q.mo), (1, .int (iI op)), (2, .int (iI pl)), (3, .int (iI (pX pl))), (4, .int (iI (pY pl))), (5, .int (iI (pZ pl))), (6, .int (iI (tkA op pl i))), (7, .int (iI (i : Int)))] → W p l e (headSpec wMO_taken rmMO_taken).room s m args below meth c H locs 0 0 Q (F0 m 39 ls []) := by
    intro n9
    induction n9 with
    | zero => intro i hi hm; exact absurd hm (Nat.not_lt_zero _)
    | succ n9 ih39 =>
      intro i hi hm39 H locs hP hD hS ls hl
      refine lv_iload hx hb dMO_taken_39 (lv_at hl 7 rfl) ?_
      refine lv_iconst (v := iI (3)) hx hb dMO_taken_41 rfl ?_
      refine lz_icmp_ge (tgt := 121) hx hb dMO_taken_42 (by decide) (by omega) (by omega) (fun c_42 => ?_) (fun c_42 => ?_)
      · refine lv_iload hx hb dMO_taken_121 (lv_at hl 6 rfl) ?_
        exact hret H locs 0 0 123 ls (tkA op pl i) (f1, g1) (by rw [show i = 3 by omega]; exact tkA_3 op pl) (hP.sub [0, 1, 2] rfl) (hD.sub [0, 1, 2] (by decide) rfl) hS (Nat.zero_le _) (Nat.zero_le _) dMO_taken_123
      · refine lv_aload_n hx hb dMO_taken_45 rfl (lv_at hl 0 rfl) ?_
        refine va_get (D := D) (ci := 7) (v := .ref q.xa) (C := nMO) (T := fMO) (N := 24) hx hb hts iwMO hown hK hP 0 rfl rfl 0 (by decide) (hts _ (List.mem_cons_of_mem _ lkMO_7)) (fun _ h9 => h9) rfl dMO_taken_46 ?_
        refine lv_iconst (v := iI (3)) hx hb dMO_taken_49 rfl ?_
        refine lv_iload hx hb dMO_taken_50 (lv_at hl 7 rfl) ?_
        refine lz_imul hx hb dMO_taken_52 ?_
        refine lz_ialk hx hb hK hP 1 0 rfl rfl (z := 3 * (i : Int)) (3 * i) (by omega) (by omega) dMO_taken_53 ?_
        refine lz_as (x := f1 (3 * i)) (y := mdg op (3 * i)) (hf1 _ (by omega)) ?_
        refine lv_iload_n hx hb dMO_taken_54 rfl (lv_at hl 3 rfl) ?_
        refine lz_imul hx hb dMO_taken_55 ?_
        refine lv_aload_n hx hb dMO_taken_56 rfl (lv_at hl 0 rfl) ?_
        refine va_get (D := D) (ci := 7) (v := .ref q.xa) (C := nMO) (T := fMO) (N := 24) hx hb hts iwMO hown hK hP 0 rfl rfl 0 (by decide) (hts _ (List.mem_cons_of_mem _ lkMO_7)) (fun _ h9 => h9) rfl dMO_taken_57 ?_
        refine lv_iconst (v := iI (3)) hx hb dMO_taken_60 rfl ?_
        refine lv_iload hx hb dMO_taken_61 (lv_at hl 7 rfl) ?_
        refine lz_imul hx hb dMO_taken_63 ?_
        refine lv_iconst (v := iI (1)) hx hb dMO_taken_64 rfl ?_
        refine lz_iadd hx hb dMO_taken_65 ?_
        refine lz_ialk hx hb hK hP 1 0 rfl rfl (z := (3 * (i : Int)) + 1) (3 * i + 1) (by omega) (by omega) dMO_taken_66 ?_
        refine lz_as (x := f1 (3 * i + 1)) (y := mdg op (3 * i + 1)) (hf1 _ (by omega)) ?_
        refine lv_iload hx hb dMO_taken_67 (lv_at hl 4 rfl) ?_
        refine lz_imul hx hb dMO_taken_69 ?_
        refine lz_iadd hx hb dMO_taken_70 ?_
        refine lv_aload_n hx hb dMO_taken_71 rfl (lv_at hl 0 rfl) ?_
        refine va_get (D := D) (ci := 7) (v := .ref q.xa) (C := nMO) (T := fMO) (N := 24) hx hb hts iwMO hown hK hP 0 rfl rfl 0 (by decide) (hts _ (List.mem_cons_of_mem _ lkMO_7)) (fun _ h9 => h9) rfl dMO_taken_72 ?_
        refine lv_iconst (v := iI (3)) hx hb dMO_taken_75 rfl ?_
        refine lv_iload hx hb dMO_taken_76 (lv_at hl 7 rfl) ?_
        refine lz_imul hx hb dMO_taken_78 ?_
        refine lv_iconst (v := iI (2)) hx hb dMO_taken_79 rfl ?_
        refine lz_iadd hx hb dMO_taken_80 ?_
        refine lz_ialk hx hb hK hP 1 0 rfl rfl (z := (3 * (i : Int)) + 2) (3 * i + 2) (by omega) (by omega) dMO_taken_81 ?_
        refine lz_as (x := f1 (3 * i + 2)) (y := mdg op (3 * i + 2)) (hf1 _ (by omega)) ?_
        refine lv_iload hx hb dMO_taken_82 (lv_at hl 5 rfl) ?_
        refine lz_imul hx hb dMO_taken_84 ?_
        refine lz_iadd hx hb dMO_taken_85 ?_
        refine lv_aload_n hx hb dMO_taken_86 rfl (lv_at hl 0 rfl) ?_
        refine va_get (D := D) (ci := 7) (v := .ref q.ya) (C := nMO) (T := fMO) (N := 24) hx hb hts iwMO hown hK hP 0 rfl rfl 1 (by decide) (hts _ (List.mem_cons_of_mem _ lkMO_13)) (fun _ h9 => h9) rfl dMO_taken_87 ?_
        refine lv_iload hx hb dMO_taken_90 (lv_at hl 7 rfl) ?_
        refine lz_ialk hx hb hK hP 2 0 rfl rfl (z := (i : Int)) i rfl (by omega) dMO_taken_92 ?_
        refine lz_as (x := g1 i) (y := sdg op i) (hg1 _ (by omega)) ?_
        refine lz_iadd hx hb dMO_taken_93 ?_
        refine lz_as (x := ((((mdg op (3 * i)) * (pX pl)) + ((mdg op (3 * i + 1)) * (pY pl))) + ((mdg op (3 * i + 2)) * (pZ pl))) + (sdg op i)) (y := tkV op pl i) (rfl) ?_
        refine lv_istore (lv' := [(8, .int (iI (tkV op pl i))), (0, .ref q.mo), (1, .int (iI op)), (2, .int (iI pl)), (3, .int (iI (pX pl))), (4, .int (iI (pY pl))), (5, .int (iI (pZ pl))), (6, .int (iI (tkA op pl i))), (7, .int (iI (i : Int)))]) hx hb dMO_taken_94 hl (by decide) rfl (fun ls hl => ?_)
        refine lv_bipush (v := iI (24)) hx hb dMO_taken_96 (by decide) ?_
        refine lv_iload hx hb dMO_taken_98 (lv_at hl 7 rfl) ?_
        refine lz_imul hx hb dMO_taken_100 ?_
        refine lv_iload hx hb dMO_taken_101 (lv_at hl 0 rfl) ?_
        refine lv_bipush (v := iI (24)) hx hb dMO_taken_103 (by decide) ?_
        refine lz_iremT hx hb dMO_taken_105 (by have := tkV_rng op hp i; omega) (by omega) ?_
        refine lv_bipush (v := iI (24)) hx hb dMO_taken_106 (by decide) ?_
        refine lz_iadd hx hb dMO_taken_108 ?_
        refine lv_bipush (v := iI (24)) hx hb dMO_taken_109 (by decide) ?_
        refine lz_irem hx hb dMO_taken_111 (by have := tmod24_b (tkV op pl i); omega) (by omega) ?_
        refine lz_as (x := (((tkV op pl i).tmod 24) + 24) % 24) (y := tkV op pl i % 24) (tmod24 _) ?_
        refine lz_iadd hx hb dMO_taken_112 ?_
        refine lv_istore (lv' := [(6, .int (iI ((24 * (tkA op pl i)) + (tkV op pl i % 24)))), (8, .int (iI (tkV op pl i))), (0, .ref q.mo), (1, .int (iI op)), (2, .int (iI pl)), (3, .int (iI (pX pl))), (4, .int (iI (pY pl))), (5, .int (iI (pZ pl))), (7, .int (iI (i : Int)))]) hx hb dMO_taken_113 hl (by decide) rfl (fun ls hl => ?_)
        refine lz_iinc (lv' := [(7, .int (iI ((i : Int) + 1))), (6, .int (iI ((24 * (tkA op pl i)) + (tkV op pl i % 24)))), (8, .int (iI (tkV op pl i))), (0, .ref q.mo), (1, .int (iI op)), (2, .int (iI pl)), (3, .int (iI (pX pl))), (4, .int (iI (pY pl))), (5, .int (iI (pZ pl)))]) hx hb dMO_taken_115 hl (k := 8) rfl (by decide) rfl (fun ls hl => ?_)
        refine lv_goto (tgt := 39) hx hb dMO_taken_118 (by decide) ?_
        rw [show (24 * (tkA op pl i)) + (tkV op pl i % 24) = tkA op pl (i + 1) from rfl] at hl
        exact ih39 (i + 1) (by omega) (by omega) _ _ (hP.sub [0, 1, 2] rfl) (hD.sub [0, 1, 2] (by decide) rfl) hS _ (lv_sub hl [3, 4, 5, 6, 7, 8, 1, 0] rfl)
  exact lp39 _ 0 (by omega) (Nat.lt_succ_self _) _ _ (hP.sub [0, 1, 2] rfl) (hD.sub [0, 1, 2] (by decide) rfl) hS _ (lv_sub hl [5, 6, 7, 4, 3, 2, 1, 0] rfl)

def rmMO_keepersOf : Room := { frames := 2, cells := 0, slots := 0, locals := 53 }
set_option maxHeartbeats 4000000 in
set_option maxRecDepth 100000 in
theorem mMO_keepersOf (l : Launch) (D : va_G) (cI cJ cZ : ClassId) (q : MoA) (cn gn ln : Int) (g : Nat) (fm fz : Nat → Int) (ks : List Int) (pl : Int) (fa ga fp : Nat → Int) (hs : ks.Pairwise (· < ·)) (hln : 0 < ks.length ∧ ks.length ≤ 192) (he : emb fm (192 * g) ks) (hz : fz g = (ks.length : Int)) (hg : g < 40) (hk : ∀ x ∈ ks, kOK x) (hp : isPl pl) : zI l yMO_keepersOf wMO_keepersOf rmMO_keepersOf D vwCl (zM cI cJ cZ) [.ref q.mo, .int (iI (g : Int)), .int (iI pl)] [(moC q cn gn ln), (q.xm, .inl (cI, 7680, .inl (zf fm))), (q.xz, .inl (cI, 40, .inl (zf fz))), (q.xa, .inl (cI, 9, .inl (zf fa))), (q.ya, .inl (cI, 3, .inl (zf ga))), (q.xp, .inl (cI, 200, .inl (zf fp)))] (S := ((Nat → Int) × (Nat → Int) × (Nat → Int))) (fun z u => z = ((keepK ks pl).length : Int) ∧ emb u.2.2 0 (keepK ks pl)) (fun u => [(moC q cn gn ln), (q.xm, .inl (cI, 7680, .inl (zf fm))), (q.xz, .inl (cI, 40, .inl (zf fz))), (q.xa, .inl (cI, 9, .inl (zf u.1))), (q.ya, .inl (cI, 3, .inl (zf u.2.1))), (q.xp, .inl (cI, 200, .inl (zf u.2.2)))]) := by
  refine zI.of (cc := cMO_keepersOf) (maxL := 5) (rt := .int) (by decide) rfl (Nat.le_of_ble_eq_true rfl) (fun _ _ _ => rfl) ?_
  intro p e s m args below meth c A ls Q hx hb hml hown hts hnm hK hD hA hAe hX hl hret H locs hP hS
  have hl : lv_has ls 5 [(0, .ref q.mo), (1, .int (iI (g : Int))), (2, .int (iI pl))] := hl
  have hp9 := hp
  unfold isPl at hp9
  refine lv_iconst (v := iI (0)) hx hb dMO_keepersOf_0 rfl ?_
  refine lv_istore_n (lv' := [(3, .int (iI 0)), (0, .ref q.mo), (1, .int (iI (g : Int))), (2, .int (iI pl))]) hx hb dMO_keepersOf_1 rfl hl (by decide) rfl (fun ls hl => ?_)
  refine lv_iconst (v := iI (0)) hx hb dMO_keepersOf_2 rfl ?_
  refine lv_istore (lv' := [(4, .int (iI 0)), (3, .int (iI 0)), (0, .ref q.mo), (1, .int (iI (g : Int))), (2, .int (iI pl))]) hx hb dMO_keepersOf_3 hl (by decide) rfl (fun ls hl => ?_)
  have lp5 : ∀ (n9 : Nat) (i : Nat) (f1 g1 fp1 : Nat → Int), (i ≤ ks.length) → (emb fp1 0 (selT ks (fun j => movK (ks.getD j (-1)) pl = pl) i)) → (ks.length - i) < n9 → ∀ (H : Heap) (locs : List Loc), va_P D vwCl [(moC q cn gn ln), (q.xm, .inl (cI, 7680, .inl (zf fm))), (q.xz, .inl (cI, 40, .inl (zf fz))), (q.xa, .inl (cI, 9, .inl (zf f1))), (q.ya, .inl (cI, 3, .inl (zf g1))), (q.xp, .inl (cI, 200, .inl (zf fp1)))] H → va_D A [(moC q cn gn ln), (q.xm, .inl (cI, 7680, .inl (zf fm))), (q.xz, .inl (cI, 40, .inl (zf fz))), (q.xa, .inl (cI, 9, .inl (zf f1))), (q.ya, .inl (cI, 3, .inl (zf g1))), (q.xp, .inl (cI, 200, .inl (zf fp1)))] → va_S A s.heap H locs → ∀ (ls : Array Slot), lv_has ls 5 [(0, .ref q.mo), (1, .int (iI (g : Int))), (2, .int (iI pl)), (3, .int (iI ((selT ks (fun j => movK (ks.getD j (-1)) pl = pl) i).length : Int))), (4, .int (iI (i : Int)))] → W p l e (headSpec wMO_keepersOf rmMO_keepersOf).room s m args below meth c H locs 0 0 Q (F0 m 5 ls []) := by
    intro n9
    induction n9 with
    | zero => intro i f1 g1 fp1 hi hE hm; exact absurd hm (Nat.not_lt_zero _)
    | succ n9 ih5 =>
      intro i f1 g1 fp1 hi hE hm5 H locs hP hD hS ls hl
      refine lv_iload hx hb dMO_keepersOf_5 (lv_at hl 4 rfl) ?_
      refine lv_aload_n hx hb dMO_keepersOf_7 rfl (lv_at hl 0 rfl) ?_
      refine va_get (D := D) (ci := 7) (v := .ref q.xz) (C := nMO) (T := fMO) (N := 24) hx hb hts iwMO hown hK hP 0 rfl rfl 7 (by decide) (hts _ (List.mem_cons_of_mem _ lkMO_28)) (fun _ h9 => h9) rfl dMO_keepersOf_8 ?_
      refine lv_iload_n hx hb dMO_keepersOf_11 rfl (lv_at hl 1 rfl) ?_
      refine lz_ialk hx hb hK hP 2 0 rfl rfl (z := (g : Int)) g rfl (by omega) dMO_keepersOf_12 ?_
      refine lz_as (x := fz g) (y := (ks.length : Int)) (hz) ?_
      refine lz_icmp_ge (tgt := 69) hx hb dMO_keepersOf_13 (by decide) (by omega) (by omega) (fun c_13 => ?_) (fun c_13 => ?_)
      · refine lv_iload_n hx hb dMO_keepersOf_69 rfl (lv_at hl 3 rfl) ?_
        exact hret H locs 0 0 70 ls ((selT ks (fun j => movK (ks.getD j (-1)) pl = pl) i).length : Int) (f1, g1, fp1) (by rw [show i = ks.length by omega] at hE ⊢; exact ⟨rfl, hE⟩) (hP.sub [0, 1, 2, 3, 4, 5] rfl) (hD.sub [0, 1, 2, 3, 4, 5] (by decide) rfl) hS (Nat.zero_le _) (Nat.zero_le _) dMO_keepersOf_70
      · have hkk := hk _ (getD_mem (ks := ks) (j := i) (by omega))
        have hkb := hkk
        unfold kOK at hkb
        have hsl := sel_len (ks := ks) (p := (fun j => movK (ks.getD j (-1)) pl = pl)) (i := i)
        refine lv_aload_n hx hb dMO_keepersOf_16 rfl (lv_at hl 0 rfl) ?_
        refine lv_aload_n hx hb dMO_keepersOf_17 rfl (lv_at hl 0 rfl) ?_
        refine va_get (D := D) (ci := 7) (v := .ref q.xm) (C := nMO) (T := fMO) (N := 24) hx hb hts iwMO hown hK hP 0 rfl rfl 6 (by decide) (hts _ (List.mem_cons_of_mem _ lkMO_25)) (fun _ h9 => h9) rfl dMO_keepersOf_18 ?_
        refine lv_sipush (v := iI (192)) hx hb dMO_keepersOf_21 (by decide) ?_
        refine lv_iload_n hx hb dMO_keepersOf_24 rfl (lv_at hl 1 rfl) ?_
        refine lz_imul hx hb dMO_keepersOf_25 ?_
        refine lv_iload hx hb dMO_keepersOf_26 (lv_at hl 4 rfl) ?_
        refine lz_iadd hx hb dMO_keepersOf_28 ?_
        refine lz_ialk hx hb hK hP 1 0 rfl rfl (z := (192 * (g : Int)) + (i : Int)) (192 * g + i) (by omega) (by omega) dMO_keepersOf_29 ?_
        refine lz_as (x := fm (192 * g + i)) (y := ks.getD i (-1)) (he _ (by omega)) ?_
        refine lv_iload_n hx hb dMO_keepersOf_30 rfl (lv_at hl 2 rfl) ?_
        refine zI.back (va_runV (As := [.int (iI (ks.getD i (-1))), .int (iI pl)]) (rest := []) ⟨hx, hb, hml, hown, hts⟩ ((mMO_taken l D cI cJ cZ q cn gn ln (ks.getD i (-1)) pl f1 g1 hkk hp) H.size) (cwV 2 hts (gT1 lkMO_175 (gT1 imMO_taken (gT1 seMO_taken (gT1 iniMO (gTW kcMO_taken))))) rfl rfl rfl (by decide +kernel) ⟨Nat.le_of_ble_eq_true rfl, Nat.le_of_ble_eq_true rfl⟩) ⟨zPre_blind, va_recv hK hP (ci := 7) (q0 := 0) rfl rfl, zPre.at (wc := [(moC q cn gn ln), (q.xa, .inl (cI, 9, .inl (zf f1))), (q.ya, .inl (cI, 3, .inl (zf g1)))]) hK hP hD hS hA hX [0, 3, 4] (by decide) rfl⟩ rfl rfl hl.1 rfl (lv_room (Nat.le_of_ble_eq_true rfl)) dMO_keepersOf_31 ⟨Nat.le_of_ble_eq_true rfl, Nat.le_of_ble_eq_true rfl⟩) (wr := [(q.xm, .inl (cI, 7680, .inl (zf fm))), (q.xz, .inl (cI, 40, .inl (zf fz))), (q.xp, .inl (cI, 200, .inl (zf fp1)))]) hP hD hS hA [0, 3, 4] [1, 2, 5] rfl rfl (by decide) (by decide) (fun z_31 u_31 H locs q_31 hP hD hS hz_31 hk_31 => ?_)
        obtain ⟨f2, g2⟩ := u_31
        obtain rfl : z_31 = movK (ks.getD i (-1)) pl := q_31
        have hmv := movK_pl (ks.getD i (-1)) pl
        unfold isPl at hmv
        have hP : va_P D vwCl [(q.xm, .inl (cI, 7680, .inl (zf fm))), (q.xz, .inl (cI, 40, .inl (zf fz))), (q.xp, .inl (cI, 200, .inl (zf fp1))), (moC q cn gn ln), (q.xa, .inl (cI, 9, .inl (zf f2))), (q.ya, .inl (cI, 3, .inl (zf g2)))] H := hP
        have hD : va_D A [(q.xm, .inl (cI, 7680, .inl (zf fm))), (q.xz, .inl (cI, 40, .inl (zf fz))), (q.xp, .inl (cI, 200, .inl (zf fp1))), (moC q cn gn ln), (q.xa, .inl (cI, 9, .inl (zf f2))), (q.ya, .inl (cI, 3, .inl (zf g2)))] := hD
        refine lv_iload_n hx hb dMO_keepersOf_34 rfl (lv_at hl 2 rfl) ?_
        refine lz_icmp_eq (tgt := 41) hx hb dMO_keepersOf_35 (by decide) (by omega) (by omega) (fun c_35 => ?_) (fun c_35 => ?_)
        · refine lv_aload_n hx hb dMO_keepersOf_41 rfl (lv_at hl 0 rfl) ?_
          refine va_get (D := D) (ci := 7) (v := .ref q.xp) (C := nMO) (T := fMO) (N := 24) hx hb hts iwMO hown hK hP 3 rfl rfl 21 (by decide) (hts _ (List.mem_cons_of_mem _ lkMO_67)) (fun _ h9 => h9) rfl dMO_keepersOf_42 ?_
          refine lv_iload_n hx hb dMO_keepersOf_45 rfl (lv_at hl 3 rfl) ?_
          refine lv_aload_n hx hb dMO_keepersOf_46 rfl (lv_at hl 0 rfl) ?_
          refine va_get (D := D) (ci := 7) (v := .ref q.xm) (C := nMO) (T := fMO) (N := 24) hx hb hts iwMO hown hK hP 3 rfl rfl 6 (by decide) (hts _ (List.mem_cons_of_mem _ lkMO_25)) (fun _ h9 => h9) rfl dMO_keepersOf_47 ?_
          refine lv_sipush (v := iI (192)) hx hb dMO_keepersOf_50 (by decide) ?_
          refine lv_iload_n hx hb dMO_keepersOf_53 rfl (lv_at hl 1 rfl) ?_
          refine lz_imul hx hb dMO_keepersOf_54 ?_
          refine lv_iload hx hb dMO_keepersOf_55 (lv_at hl 4 rfl) ?_
          refine lz_iadd hx hb dMO_keepersOf_57 ?_
          refine lz_ialk hx hb hK hP 0 0 rfl rfl (z := (192 * (g : Int)) + (i : Int)) (192 * g + i) (by omega) (by omega) dMO_keepersOf_58 ?_
          refine lz_as (x := fm (192 * g + i)) (y := ks.getD i (-1)) (he _ (by omega)) ?_
          refine lz_iast hx hb hK hP hD hS 2 0 rfl rfl (z := ((selT ks (fun j => movK (ks.getD j (-1)) pl = pl) i).length : Int)) (v := ks.getD i (-1)) (by omega) dMO_keepersOf_59 (fun H locs hP hD hS => ?_)
          have hP : va_P D vwCl [(q.xm, .inl (cI, 7680, .inl (zf fm))), (q.xz, .inl (cI, 40, .inl (zf fz))), (q.xp, .inl (cI, 200, .inl (zf (zu fp1 (((selT ks (fun j => movK (ks.getD j (-1)) pl = pl) i).length : Int)).toNat (ks.getD i (-1)))))), (moC q cn gn ln), (q.xa, .inl (cI, 9, .inl (zf f2))), (q.ya, .inl (cI, 3, .inl (zf g2)))] H := hP
          have hD : va_D A [(q.xm, .inl (cI, 7680, .inl (zf fm))), (q.xz, .inl (cI, 40, .inl (zf fz))), (q.xp, .inl (cI, 200, .inl (zf (zu fp1 (((selT ks (fun j => movK (ks.getD j (-1)) pl = pl) i).length : Int)).toNat (ks.getD i (-1)))))), (moC q cn gn ln), (q.xa, .inl (cI, 9, .inl (zf f2))), (q.ya, .inl (cI, 3, .inl (zf g2)))] := hD
          refine lz_iinc (lv' := [(3, .int (iI (((selT ks (fun j => movK (ks.getD j (-1)) pl = pl) i).length : Int) + 1))), (0, .ref q.mo), (1, .int (iI (g : Int))), (2, .int (iI pl)), (4, .int (iI (i : Int)))]) hx hb dMO_keepersOf_60 hl (k := 3) rfl (by decide) rfl (fun ls hl => ?_)
          refine lz_iinc (lv' := [(4, .int (iI ((i : Int) + 1))), (3, .int (iI (((selT ks (fun j => movK (ks.getD j (-1)) pl = pl) i).length : Int) + 1))), (0, .ref q.mo), (1, .int (iI (g : Int))), (2, .int (iI pl))]) hx hb dMO_keepersOf_63 hl (k := 4) rfl (by decide) rfl (fun ls hl => ?_)
          refine lv_goto (tgt := 5) hx hb dMO_keepersOf_66 (by decide) ?_
          rw [show ((selT ks (fun j => movK (ks.getD j (-1)) pl = pl) i).length : Int) + 1 = ((selT ks (fun j => movK (ks.getD j (-1)) pl = pl) (i + 1)).length : Int) from sel_len_s (p := (fun j => movK (ks.getD j (-1)) pl = pl)) c_35] at hl
          exact ih5 (i + 1) f2 g2 (zu fp1 (((selT ks (fun j => movK (ks.getD j (-1)) pl = pl) i).length : Int)).toNat (ks.getD i (-1))) (by omega) (sel_emb (p := (fun j => movK (ks.getD j (-1)) pl = pl)) hE c_35) (by omega) _ _ (hP.sub [3, 0, 1, 4, 5, 2] rfl) (hD.sub [3, 0, 1, 4, 5, 2] (by decide) rfl) hS _ (lv_sub hl [2, 3, 4, 1, 0] rfl)
        · refine lv_goto (tgt := 63) hx hb dMO_keepersOf_38 (by decide) ?_
          refine lz_iinc (lv' := [(4, .int (iI ((i : Int) + 1))), (0, .ref q.mo), (1, .int (iI (g : Int))), (2, .int (iI pl)), (3, .int (iI ((selT ks (fun j => movK (ks.getD j (-1)) pl = pl) i).length : Int)))]) hx hb dMO_keepersOf_63 hl (k := 4) rfl (by decide) rfl (fun ls hl => ?_)
          refine lv_goto (tgt := 5) hx hb dMO_keepersOf_66 (by decide) ?_
          rw [show ((selT ks (fun j => movK (ks.getD j (-1)) pl = pl) i).length : Int) = ((selT ks (fun j => movK (ks.getD j (-1)) pl = pl) (i + 1)).length : Int) from by rw [selT_f (p := (fun j => movK (ks.getD j (-1)) pl = pl)) c_35]] at hl
          exact ih5 (i + 1) f2 g2 fp1 (by omega) (by rw [selT_f (p := (fun j => movK (ks.getD j (-1)) pl = pl)) c_35]; exact hE) (by omega) _ _ (hP.sub [3, 0, 1, 4, 5, 2] rfl) (hD.sub [3, 0, 1, 4, 5, 2] (by decide) rfl) hS _ (lv_sub hl [1, 2, 3, 4, 0] rfl)
  exact lp5 _ 0 fa ga fp (Nat.zero_le _) (fun j hj => absurd hj (Nat.not_lt_zero _)) (Nat.lt_succ_self _) _ _ (hP.sub [0, 1, 2, 3, 4, 5] rfl) (hD.sub [0, 1, 2, 3, 4, 5] (by decide) rfl) hS _ (lv_sub hl [2, 3, 4, 1, 0] rfl)

def rmMO_orbitOf : Room := { frames := 2, cells := 0, slots := 0, locals := 53 }
set_option maxHeartbeats 4000000 in
set_option maxRecDepth 100000 in
theorem mMO_orbitOf (l : Launch) (D : va_G) (cI cJ cZ : ClassId) (q : MoA) (cn gn ln : Int) (g : Nat) (fm fz : Nat → Int) (ks : List Int) (pl : Int) (fa ga fo : Nat → Int) (hs : ks.Pairwise (· < ·)) (hln : 0 < ks.length ∧ ks.length ≤ 192) (he : emb fm (192 * g) ks) (hz : fz g = (ks.length : Int)) (hg : g < 40) (hk : ∀ x ∈ ks, kOK x) (hp : isPl pl) : zI l yMO_orbitOf wMO_orbitOf rmMO_orbitOf D vwCl (zM cI cJ cZ) [.ref q.mo, .int (iI (g : Int)), .int (iI pl)] [(moC q cn gn ln), (q.xm, .inl (cI, 7680, .inl (zf fm))), (q.xz, .inl (cI, 40, .inl (zf fz))), (q.xa, .inl (cI, 9, .inl (zf fa))), (q.ya, .inl (cI, 3, .inl (zf ga))), (q.xo, .inl (cI, 200, .inl (zf fo)))] (S := ((Nat → Int) × (Nat → Int) × (Nat → Int))) (fun z u => ∃ L, rowOK 200 u.2.2 L ∧ z = (L.length : Int) ∧ L.length ≤ 192 ∧ orbL ks pl ks.length L) (fun u => [(moC q cn gn ln), (q.xm, .inl (cI, 7680, .inl (zf fm))), (q.xz, .inl (cI, 40, .inl (zf fz))), (q.xa, .inl (cI, 9, .inl (zf u.1))), (q.ya, .inl (cI, 3, .inl (zf u.2.1))), (q.xo, .inl (cI, 200, .inl (zf u.2.2)))]) := by
  refine zI.of (cc := cMO_orbitOf) (maxL := 8) (rt := .int) (by decide) rfl (Nat.le_of_ble_eq_true rfl) (fun _ _ _ => rfl) ?_
  intro p e s m args below meth c A ls Q hx hb hml hown hts hnm hK hD hA hAe hX hl hret H locs hP hS
  have hl : lv_has ls 8 [(0, .ref q.mo), (1, .int (iI (g : Int))), (2, .int (iI pl))] := hl
  have hp9 := hp
  unfold isPl at hp9
  refine lv_iconst (v := iI (0)) hx hb dMO_orbitOf_0 rfl ?_
  refine lv_istore_n (lv' := [(3, .int (iI 0)), (0, .ref q.mo), (1, .int (iI (g : Int))), (2, .int (iI pl))]) hx hb dMO_orbitOf_1 rfl hl (by decide) rfl (fun ls hl => ?_)
  refine lv_iconst (v := iI (0)) hx hb dMO_orbitOf_2 rfl ?_
  refine lv_istore (lv' := [(4, .int (iI 0)), (3, .int (iI 0)), (0, .ref q.mo), (1, .int (iI (g : Int))), (2, .int (iI pl))]) hx hb dMO_orbitOf_3 hl (by decide) rfl (fun ls hl => ?_)
  have lp5 : ∀ (n9 : Nat) (i : Nat) (L : List Int) (f1 g1 fo1 : Nat → Int), (i ≤ ks.length) → (rowOK 200 fo1 L) → (L.length ≤ i) → (orbL ks pl i L) → (ks.length - i) < n9 → ∀ (H : Heap) (locs : List Loc), va_P D vwCl [(moC q cn gn ln), (q.xm, .inl (cI, 7680, .inl (zf fm))), (q.xz, .inl (cI, 40, .inl (zf fz))), (q.xa, .inl (cI, 9, .inl (zf f1))), (q.ya, .inl (cI, 3, .inl (zf g1))), (q.xo, .inl (cI, 200, .inl (zf fo1)))] H → va_D A [(moC q cn gn ln), (q.xm, .inl (cI, 7680, .inl (zf fm))), (q.xz, .inl (cI, 40, .inl (zf fz))), (q.xa, .inl (cI, 9, .inl (zf f1))), (q.ya, .inl (cI, 3, .inl (zf g1))), (q.xo, .inl (cI, 200, .inl (zf fo1)))] → va_S A s.heap H locs → ∀ (ls : Array Slot), lv_has ls 8 [(0, .ref q.mo), (1, .int (iI (g : Int))), (2, .int (iI pl)), (3, .int (iI (L.length : Int))), (4, .int (iI (i : Int)))] → W p l e (headSpec wMO_orbitOf rmMO_orbitOf).room s m args below meth c H locs 0 0 Q (F0 m 5 ls []) := by
    intro n9
    induction n9 with
    | zero => intro i L f1 g1 fo1 hi hR hLi hO hm; exact absurd hm (Nat.not_lt_zero _)
    | succ n9 ih5 =>
      intro i L f1 g1 fo1 hi hR hLi hO hm5 H locs hP hD hS ls hl
      refine lv_iload hx hb dMO_orbitOf_5 (lv_at hl 4 rfl) ?_
      refine lv_aload_n hx hb dMO_orbitOf_7 rfl (lv_at hl 0 rfl) ?_
      refine va_get (D := D) (ci := 7) (v := .ref q.xz) (C := nMO) (T := fMO) (N := 24) hx hb hts iwMO hown hK hP 0 rfl rfl 7 (by decide) (hts _ (List.mem_cons_of_mem _ lkMO_28)) (fun _ h9 => h9) rfl dMO_orbitOf_8 ?_
      refine lv_iload_n hx hb dMO_orbitOf_11 rfl (lv_at hl 1 rfl) ?_
      refine lz_ialk hx hb hK hP 2 0 rfl rfl (z := (g : Int)) g rfl (by omega) dMO_orbitOf_12 ?_
      refine lz_as (x := fz g) (y := (ks.length : Int)) (hz) ?_
      refine lz_icmp_ge (tgt := 136) hx hb dMO_orbitOf_13 (by decide) (by omega) (by omega) (fun c_13 => ?_) (fun c_13 => ?_)
      · refine lv_iload_n hx hb dMO_orbitOf_136 rfl (lv_at hl 3 rfl) ?_
        exact hret H locs 0 0 137 ls (L.length : Int) (f1, g1, fo1) ⟨L, hR, rfl, by omega, by rw [show i = ks.length by omega] at hO; exact hO⟩ (hP.sub [0, 1, 2, 3, 4, 5] rfl) (hD.sub [0, 1, 2, 3, 4, 5] (by decide) rfl) hS (Nat.zero_le _) (Nat.zero_le _) dMO_orbitOf_137
      · have hkk := hk _ (getD_mem (ks := ks) (j := i) (by omega))
        have hkb := hkk
        unfold kOK at hkb
        refine lv_aload_n hx hb dMO_orbitOf_16 rfl (lv_at hl 0 rfl) ?_
        refine lv_aload_n hx hb dMO_orbitOf_17 rfl (lv_at hl 0 rfl) ?_
        refine va_get (D := D) (ci := 7) (v := .ref q.xm) (C := nMO) (T := fMO) (N := 24) hx hb hts iwMO hown hK hP 0 rfl rfl 6 (by decide) (hts _ (List.mem_cons_of_mem _ lkMO_25)) (fun _ h9 => h9) rfl dMO_orbitOf_18 ?_
        refine lv_sipush (v := iI (192)) hx hb dMO_orbitOf_21 (by decide) ?_
        refine lv_iload_n hx hb dMO_orbitOf_24 rfl (lv_at hl 1 rfl) ?_
        refine lz_imul hx hb dMO_orbitOf_25 ?_
        refine lv_iload hx hb dMO_orbitOf_26 (lv_at hl 4 rfl) ?_
        refine lz_iadd hx hb dMO_orbitOf_28 ?_
        refine lz_ialk hx hb hK hP 1 0 rfl rfl (z := (192 * (g : Int)) + (i : Int)) (192 * g + i) (by omega) (by omega) dMO_orbitOf_29 ?_
        refine lz_as (x := fm (192 * g + i)) (y := ks.getD i (-1)) (he _ (by omega)) ?_
        refine lv_iload_n hx hb dMO_orbitOf_30 rfl (lv_at hl 2 rfl) ?_
        refine zI.back (va_runV (As := [.int (iI (ks.getD i (-1))), .int (iI pl)]) (rest := []) ⟨hx, hb, hml, hown, hts⟩ ((mMO_taken l D cI cJ cZ q cn gn ln (ks.getD i (-1)) pl f1 g1 hkk hp) H.size) (cwV 2 hts (gT1 lkMO_175 (gT1 imMO_taken (gT1 seMO_taken (gT1 iniMO (gTW kcMO_taken))))) rfl rfl rfl (by decide +kernel) ⟨Nat.le_of_ble_eq_true rfl, Nat.le_of_ble_eq_true rfl⟩) ⟨zPre_blind, va_recv hK hP (ci := 7) (q0 := 0) rfl rfl, zPre.at (wc := [(moC q cn gn ln), (q.xa, .inl (cI, 9, .inl (zf f1))), (q.ya, .inl (cI, 3, .inl (zf g1)))]) hK hP hD hS hA hX [0, 3, 4] (by decide) rfl⟩ rfl rfl hl.1 rfl (lv_room (Nat.le_of_ble_eq_true rfl)) dMO_orbitOf_31 ⟨Nat.le_of_ble_eq_true rfl, Nat.le_of_ble_eq_true rfl⟩) (wr := [(q.xm, .inl (cI, 7680, .inl (zf fm))), (q.xz, .inl (cI, 40, .inl (zf fz))), (q.xo, .inl (cI, 200, .inl (zf fo1)))]) hP hD hS hA [0, 3, 4] [1, 2, 5] rfl rfl (by decide) (by decide) (fun z_31 u_31 H locs q_31 hP hD hS hz_31 hk_31 => ?_)
        obtain ⟨f2, g2⟩ := u_31
        obtain rfl : z_31 = movK (ks.getD i (-1)) pl := q_31
        have hmv := movK_pl (ks.getD i (-1)) pl
        unfold isPl at hmv
        have hP : va_P D vwCl [(q.xm, .inl (cI, 7680, .inl (zf fm))), (q.xz, .inl (cI, 40, .inl (zf fz))), (q.xo, .inl (cI, 200, .inl (zf fo1))), (moC q cn gn ln), (q.xa, .inl (cI, 9, .inl (zf f2))), (q.ya, .inl (cI, 3, .inl (zf g2)))] H := hP
        have hD : va_D A [(q.xm, .inl (cI, 7680, .inl (zf fm))), (q.xz, .inl (cI, 40, .inl (zf fz))), (q.xo, .inl (cI, 200, .inl (zf fo1))), (moC q cn gn ln), (q.xa, .inl (cI, 9, .inl (zf f2))), (q.ya, .inl (cI, 3, .inl (zf g2)))] := hD
        refine lv_istore (lv' := [(5, .int (iI (movK (ks.getD i (-1)) pl))), (0, .ref q.mo), (1, .int (iI (g : Int))), (2, .int (iI pl)), (3, .int (iI (L.length : Int))), (4, .int (iI (i : Int)))]) hx hb dMO_orbitOf_34 hl (by decide) rfl (fun ls hl => ?_)
        refine lv_iload_n hx hb dMO_orbitOf_36 rfl (lv_at hl 4 rfl) ?_
        refine lv_istore (lv' := [(6, .int (iI (L.length : Int))), (5, .int (iI (movK (ks.getD i (-1)) pl))), (0, .ref q.mo), (1, .int (iI (g : Int))), (2, .int (iI pl)), (3, .int (iI (L.length : Int))), (4, .int (iI (i : Int)))]) hx hb dMO_orbitOf_37 hl (by decide) rfl (fun ls hl => ?_)
        have lp39 : ∀ (n9 : Nat) (t : Nat), (t ≤ L.length) → (∀ j, t ≤ j → j < L.length → movK (ks.getD i (-1)) pl < L.getD j (-1)) → (t) < n9 → ∀ (H : Heap) (locs : List Loc), va_P D vwCl [(moC q cn gn ln), (q.xm, .inl (cI, 7680, .inl (zf fm))), (q.xz, .inl (cI, 40, .inl (zf fz))), (q.xa, .inl (cI, 9, .inl (zf f2))), (q.ya, .inl (cI, 3, .inl (zf g2))), (q.xo, .inl (cI, 200, .inl (zf fo1)))] H → va_D A [(moC q cn gn ln), (q.xm, .inl (cI, 7680, .inl (zf fm))), (q.xz, .inl (cI, 40, .inl (zf fz))), (q.xa, .inl (cI, 9, .inl (zf f2))), (q.ya, .inl (cI, 3, .inl (zf g2))), (q.xo, .inl (cI, 200, .inl (zf fo1)))] → va_S A s.heap H locs → ∀ (ls : Array Slot), lv_has ls 8 [(0, .ref q.mo), (1, .int (iI (g : Int))), (2, .int (iI pl)), (3, .int (iI (L.length : Int))), (4, .int (iI (i : Int))), (5, .int (iI (movK (ks.getD i (-1)) pl))), (6, .int (iI (t : Int)))] → W p l e (headSpec wMO_orbitOf rmMO_orbitOf).room s m args below meth c H locs 0 0 Q (F0 m 39 ls []) := by
          intro n9
          induction n9 with
          | zero => intro t ht h3 hm; exact absurd hm (Nat.not_lt_zero _)
          | succ n9 ih39 =>
            intro t ht h3 hm39 H locs hP hD hS ls hl
            refine lv_iload hx hb dMO_orbitOf_39 (lv_at hl 6 rfl) ?_
            refine lz_if_le (tgt := 64) hx hb dMO_orbitOf_41 (by decide) (by omega) (fun c_41 => ?_) (fun c_41 => ?_)
            · refine lv_iload hx hb dMO_orbitOf_64 (lv_at hl 6 rfl) ?_
              refine lz_if_le (tgt := 86) hx hb dMO_orbitOf_66 (by decide) (by omega) (fun c_66 => ?_) (fun c_66 => ?_)
              · have h4 : t = 0 ∨ L.getD (t - 1) (-1) < movK (ks.getD i (-1)) pl := Or.inl (by omega)
                refine lv_iload_n hx hb dMO_orbitOf_86 rfl (lv_at hl 3 rfl) ?_
                refine lv_istore (lv' := [(7, .int (iI (L.length : Int))), (0, .ref q.mo), (1, .int (iI (g : Int))), (2, .int (iI pl)), (3, .int (iI (L.length : Int))), (4, .int (iI (i : Int))), (5, .int (iI (movK (ks.getD i (-1)) pl))), (6, .int (iI (t : Int)))]) hx hb dMO_orbitOf_87 hl (by decide) rfl (fun ls hl => ?_)
                rw [show fo1 = shf fo1 L.length L.length from (shf_k fo1 L.length).symm] at hP hD
                have lp89 : ∀ (n9 : Nat) (j : Nat), (j ≤ L.length) → (t ≤ j) → (j) < n9 → ∀ (H : Heap) (locs : List Loc), va_P D vwCl [(moC q cn gn ln), (q.xm, .inl (cI, 7680, .inl (zf fm))), (q.xz, .inl (cI, 40, .inl (zf fz))), (q.xa, .inl (cI, 9, .inl (zf f2))), (q.ya, .inl (cI, 3, .inl (zf g2))), (q.xo, .inl (cI, 200, .inl (zf (shf fo1 L.length j))))] H → va_D A [(moC q cn gn ln), (q.xm, .inl (cI, 7680, .inl (zf fm))), (q.xz, .inl (cI, 40, .inl (zf fz))), (q.xa, .inl (cI, 9, .inl (zf f2))), (q.ya, .inl (cI, 3, .inl (zf g2))), (q.xo, .inl (cI, 200, .inl (zf (shf fo1 L.length j))))] → va_S A s.heap H locs → ∀ (ls : Array Slot), lv_has ls 8 [(0, .ref q.mo), (1, .int (iI (g : Int))), (2, .int (iI pl)), (3, .int (iI (L.length : Int))), (4, .int (iI (i : Int))), (5, .int (iI (movK (ks.getD i (-1)) pl))), (6, .int (iI (t : Int))), (7, .int (iI (j : Int)))] → W p l e (headSpec wMO_orbitOf rmMO_orbitOf).room s m args below meth c H locs 0 0 Q (F0 m 89 ls []) := by
                  intro n9
                  induction n9 with
                  | zero => intro j hj hj2 hm; exact absurd hm (Nat.not_lt_zero _)
                  | succ n9 ih89 =>
                    intro j hj hj2 hm89 H locs hP hD hS ls hl
                    refine lv_iload hx hb dMO_orbitOf_89 (lv_at hl 7 rfl) ?_
                    refine lv_iload hx hb dMO_orbitOf_91 (lv_at hl 6 rfl) ?_
                    refine lz_icmp_le (tgt := 118) hx hb dMO_orbitOf_93 (by decide) (by omega) (by omega) (fun c_93 => ?_) (fun c_93 => ?_)
                    · have hjt : j = t := by omega
                      rw [hjt] at hP hD hl
                      refine lv_aload_n hx hb dMO_orbitOf_118 rfl (lv_at hl 0 rfl) ?_
                      refine va_get (D := D) (ci := 7) (v := .ref q.xo) (C := nMO) (T := fMO) (N := 24) hx hb hts iwMO hown hK hP 0 rfl rfl 19 (by decide) (hts _ (List.mem_cons_of_mem _ lkMO_61)) (fun _ h9 => h9) rfl dMO_orbitOf_119 ?_
                      refine lv_iload hx hb dMO_orbitOf_122 (lv_at hl 6 rfl) ?_
                      refine lv_iload hx hb dMO_orbitOf_124 (lv_at hl 5 rfl) ?_
                      refine lz_iask hx hb hK hP hD hS 5 0 rfl rfl (z := (t : Int)) (v := movK (ks.getD i (-1)) pl) t rfl (by omega) dMO_orbitOf_126 (fun H locs hP hD hS => ?_)
                      have hP : va_P D vwCl [(moC q cn gn ln), (q.xm, .inl (cI, 7680, .inl (zf fm))), (q.xz, .inl (cI, 40, .inl (zf fz))), (q.xa, .inl (cI, 9, .inl (zf f2))), (q.ya, .inl (cI, 3, .inl (zf g2))), (q.xo, .inl (cI, 200, .inl (zf (zu (shf fo1 L.length t) t (movK (ks.getD i (-1)) pl)))))] H := hP
                      have hD : va_D A [(moC q cn gn ln), (q.xm, .inl (cI, 7680, .inl (zf fm))), (q.xz, .inl (cI, 40, .inl (zf fz))), (q.xa, .inl (cI, 9, .inl (zf f2))), (q.ya, .inl (cI, 3, .inl (zf g2))), (q.xo, .inl (cI, 200, .inl (zf (zu (shf fo1 L.length t) t (movK (ks.getD i (-1)) pl)))))] := hD
                      refine lz_iinc (lv' := [(3, .int (iI ((L.length : Int) + 1))), (0, .ref q.mo), (1, .int (iI (g : Int))), (2, .int (iI pl)), (4, .int (iI (i : Int))), (5, .int (iI (movK (ks.getD i (-1)) pl))), (6, .int (iI (t : Int))), (7, .int (iI (t : Int)))]) hx hb dMO_orbitOf_127 hl (k := 3) rfl (by decide) rfl (fun ls hl => ?_)
                      refine lz_iinc (lv' := [(4, .int (iI ((i : Int) + 1))), (3, .int (iI ((L.length : Int) + 1))), (0, .ref q.mo), (1, .int (iI (g : Int))), (2, .int (iI pl)), (5, .int (iI (movK (ks.getD i (-1)) pl))), (6, .int (iI (t : Int))), (7, .int (iI (t : Int)))]) hx hb dMO_orbitOf_130 hl (k := 4) rfl (by decide) rfl (fun ls hl => ?_)
                      refine lv_goto (tgt := 5) hx hb dMO_orbitOf_133 (by decide) ?_
                      obtain ⟨L2, hR2, hi2⟩ := orb_ins (p := movK (ks.getD i (-1)) pl) hR ht (by omega) (by omega) h3 (by rcases h4 with q9 | q9 <;> first | exact Or.inl q9 | exact Or.inr q9)
                      have hl2 := hi2.2
                      rw [show (L.length : Int) + 1 = (L2.length : Int) from by omega] at hl
                      exact ih5 (i + 1) L2 f2 g2 (zu (shf fo1 L.length t) t (movK (ks.getD i (-1)) pl)) (by omega) hR2 (by omega) (orbL_s hO hi2.1) (by omega) _ _ (hP.sub [0, 1, 2, 3, 4, 5] rfl) (hD.sub [0, 1, 2, 3, 4, 5] (by decide) rfl) hS _ (lv_sub hl [2, 3, 4, 1, 0] rfl)
                    · refine lv_aload_n hx hb dMO_orbitOf_96 rfl (lv_at hl 0 rfl) ?_
                      refine va_get (D := D) (ci := 7) (v := .ref q.xo) (C := nMO) (T := fMO) (N := 24) hx hb hts iwMO hown hK hP 0 rfl rfl 19 (by decide) (hts _ (List.mem_cons_of_mem _ lkMO_61)) (fun _ h9 => h9) rfl dMO_orbitOf_97 ?_
                      refine lv_iload hx hb dMO_orbitOf_100 (lv_at hl 7 rfl) ?_
                      refine lv_aload_n hx hb dMO_orbitOf_102 rfl (lv_at hl 0 rfl) ?_
                      refine va_get (D := D) (ci := 7) (v := .ref q.xo) (C := nMO) (T := fMO) (N := 24) hx hb hts iwMO hown hK hP 0 rfl rfl 19 (by decide) (hts _ (List.mem_cons_of_mem _ lkMO_61)) (fun _ h9 => h9) rfl dMO_orbitOf_103 ?_
                      refine lv_iload hx hb dMO_orbitOf_106 (lv_at hl 7 rfl) ?_
                      refine lv_iconst (v := iI (1)) hx hb dMO_orbitOf_108 rfl ?_
                      refine lz_isub hx hb dMO_orbitOf_109 ?_
                      refine lz_ialk hx hb hK hP 5 0 rfl rfl (z := (j : Int) - 1) (j - 1) (by omega) (by omega) dMO_orbitOf_110 ?_
                      refine lz_as (x := (shf fo1 L.length j) (j - 1)) (y := fo1 (j - 1)) (shf_le fo1 (by omega)) ?_
                      refine lz_iask hx hb hK hP hD hS 5 0 rfl rfl (z := (j : Int)) (v := fo1 (j - 1)) j rfl (by omega) dMO_orbitOf_111 (fun H locs hP hD hS => ?_)
                      have hP : va_P D vwCl [(moC q cn gn ln), (q.xm, .inl (cI, 7680, .inl (zf fm))), (q.xz, .inl (cI, 40, .inl (zf fz))), (q.xa, .inl (cI, 9, .inl (zf f2))), (q.ya, .inl (cI, 3, .inl (zf g2))), (q.xo, .inl (cI, 200, .inl (zf (zu (shf fo1 L.length j) j (fo1 (j - 1))))))] H := hP
                      have hD : va_D A [(moC q cn gn ln), (q.xm, .inl (cI, 7680, .inl (zf fm))), (q.xz, .inl (cI, 40, .inl (zf fz))), (q.xa, .inl (cI, 9, .inl (zf f2))), (q.ya, .inl (cI, 3, .inl (zf g2))), (q.xo, .inl (cI, 200, .inl (zf (zu (shf fo1 L.length j) j (fo1 (j - 1))))))] := hD
                      refine lz_iinc (lv' := [(7, .int (iI ((j : Int) + (-1)))), (0, .ref q.mo), (1, .int (iI (g : Int))), (2, .int (iI pl)), (3, .int (iI (L.length : Int))), (4, .int (iI (i : Int))), (5, .int (iI (movK (ks.getD i (-1)) pl))), (6, .int (iI (t : Int)))]) hx hb dMO_orbitOf_112 hl (k := 7) rfl (by decide) rfl (fun ls hl => ?_)
                      refine lv_goto (tgt := 89) hx hb dMO_orbitOf_115 (by decide) ?_
                      rw [show zu (shf fo1 L.length j) j (fo1 (j - 1)) = shf fo1 L.length (j - 1) from shf_s fo1 (by omega) hj] at hP hD
                      rw [show (j : Int) + (-1) = ((j - 1 : Nat) : Int) from by omega] at hl
                      exact ih89 (j - 1) (by omega) (by omega) (by omega) _ _ (hP.sub [0, 1, 2, 3, 4, 5] rfl) (hD.sub [0, 1, 2, 3, 4, 5] (by decide) rfl) hS _ (lv_sub hl [1, 2, 3, 4, 5, 6, 7, 0] rfl)
                exact lp89 _ L.length (Nat.le_refl _) ht (Nat.lt_succ_self _) _ _ (hP.sub [0, 1, 2, 3, 4, 5] rfl) (hD.sub [0, 1, 2, 3, 4, 5] (by decide) rfl) hS _ (lv_sub hl [1, 2, 3, 4, 5, 6, 7, 0] rfl)
              · refine lv_aload_n hx hb dMO_orbitOf_69 rfl (lv_at hl 0 rfl) ?_
                refine va_get (D := D) (ci := 7) (v := .ref q.xo) (C := nMO) (T := fMO) (N := 24) hx hb hts iwMO hown hK hP 0 rfl rfl 19 (by decide) (hts _ (List.mem_cons_of_mem _ lkMO_61)) (fun _ h9 => h9) rfl dMO_orbitOf_70 ?_
                refine lv_iload hx hb dMO_orbitOf_73 (lv_at hl 6 rfl) ?_
                refine lv_iconst (v := iI (1)) hx hb dMO_orbitOf_75 rfl ?_
                refine lz_isub hx hb dMO_orbitOf_76 ?_
                refine lz_ialk hx hb hK hP 5 0 rfl rfl (z := (t : Int) - 1) (t - 1) (by omega) (by omega) dMO_orbitOf_77 ?_
                refine lz_as (x := fo1 (t - 1)) (y := L.getD (t - 1) (-1)) (hR.2.2.1 _ (by omega)) ?_
                refine lv_iload hx hb dMO_orbitOf_78 (lv_at hl 5 rfl) ?_
                refine lz_icmp_ne (tgt := 86) hx hb dMO_orbitOf_80 (by decide) (by have := hR.rng (j := t - 1) (by omega); omega) (by omega) (fun c_80 => ?_) (fun c_80 => ?_)
                · have h4 : t = 0 ∨ L.getD (t - 1) (-1) < movK (ks.getD i (-1)) pl := Or.inr (by omega)
                  refine lv_iload_n hx hb dMO_orbitOf_86 rfl (lv_at hl 3 rfl) ?_
                  refine lv_istore (lv' := [(7, .int (iI (L.length : Int))), (0, .ref q.mo), (1, .int (iI (g : Int))), (2, .int (iI pl)), (3, .int (iI (L.length : Int))), (4, .int (iI (i : Int))), (5, .int (iI (movK (ks.getD i (-1)) pl))), (6, .int (iI (t : Int)))]) hx hb dMO_orbitOf_87 hl (by decide) rfl (fun ls hl => ?_)
                  rw [show fo1 = shf fo1 L.length L.length from (shf_k fo1 L.length).symm] at hP hD
                  have lp89 : ∀ (n9 : Nat) (j : Nat), (j ≤ L.length) → (t ≤ j) → (j) < n9 → ∀ (H : Heap) (locs : List Loc), va_P D vwCl [(moC q cn gn ln), (q.xm, .inl (cI, 7680, .inl (zf fm))), (q.xz, .inl (cI, 40, .inl (zf fz))), (q.xa, .inl (cI, 9, .inl (zf f2))), (q.ya, .inl (cI, 3, .inl (zf g2))), (q.xo, .inl (cI, 200, .inl (zf (shf fo1 L.length j))))] H → va_D A [(moC q cn gn ln), (q.xm, .inl (cI, 7680, .inl (zf fm))), (q.xz, .inl (cI, 40, .inl (zf fz))), (q.xa, .inl (cI, 9, .inl (zf f2))), (q.ya, .inl (cI, 3, .inl (zf g2))), (q.xo, .inl (cI, 200, .inl (zf (shf fo1 L.length j))))] → va_S A s.heap H locs → ∀ (ls : Array Slot), lv_has ls 8 [(0, .ref q.mo), (1, .int (iI (g : Int))), (2, .int (iI pl)), (3, .int (iI (L.length : Int))), (4, .int (iI (i : Int))), (5, .int (iI (movK (ks.getD i (-1)) pl))), (6, .int (iI (t : Int))), (7, .int (iI (j : Int)))] → W p l e (headSpec wMO_orbitOf rmMO_orbitOf).room s m args below meth c H locs 0 0 Q (F0 m 89 ls []) := by
                    intro n9
                    induction n9 with
                    | zero => intro j hj hj2 hm; exact absurd hm (Nat.not_lt_zero _)
                    | succ n9 ih89 =>
                      intro j hj hj2 hm89 H locs hP hD hS ls hl
                      refine lv_iload hx hb dMO_orbitOf_89 (lv_at hl 7 rfl) ?_
                      refine lv_iload hx hb dMO_orbitOf_91 (lv_at hl 6 rfl) ?_
                      refine lz_icmp_le (tgt := 118) hx hb dMO_orbitOf_93 (by decide) (by omega) (by omega) (fun c_93 => ?_) (fun c_93 => ?_)
                      · have hjt : j = t := by omega
                        rw [hjt] at hP hD hl
                        refine lv_aload_n hx hb dMO_orbitOf_118 rfl (lv_at hl 0 rfl) ?_
                        refine va_get (D := D) (ci := 7) (v := .ref q.xo) (C := nMO) (T := fMO) (N := 24) hx hb hts iwMO hown hK hP 0 rfl rfl 19 (by decide) (hts _ (List.mem_cons_of_mem _ lkMO_61)) (fun _ h9 => h9) rfl dMO_orbitOf_119 ?_
                        refine lv_iload hx hb dMO_orbitOf_122 (lv_at hl 6 rfl) ?_
                        refine lv_iload hx hb dMO_orbitOf_124 (lv_at hl 5 rfl) ?_
                        refine lz_iask hx hb hK hP hD hS 5 0 rfl rfl (z := (t : Int)) (v := movK (ks.getD i (-1)) pl) t rfl (by omega) dMO_orbitOf_126 (fun H locs hP hD hS => ?_)
                        have hP : va_P D vwCl [(moC q cn gn ln), (q.xm, .inl (cI, 7680, .inl (zf fm))), (q.xz, .inl (cI, 40, .inl (zf fz))), (q.xa, .inl (cI, 9, .inl (zf f2))), (q.ya, .inl (cI, 3, .inl (zf g2))), (q.xo, .inl (cI, 200, .inl (zf (zu (shf fo1 L.length t) t (movK (ks.getD i (-1)) pl)))))] H := hP
                        have hD : va_D A [(moC q cn gn ln), (q.xm, .inl (cI, 7680, .inl (zf fm))), (q.xz, .inl (cI, 40, .inl (zf fz))), (q.xa, .inl (cI, 9, .inl (zf f2))), (q.ya, .inl (cI, 3, .inl (zf g2))), (q.xo, .inl (cI, 200, .inl (zf (zu (shf fo1 L.length t) t (movK (ks.getD i (-1)) pl)))))] := hD
                        refine lz_iinc (lv' := [(3, .int (iI ((L.length : Int) + 1))), (0, .ref q.mo), (1, .int (iI (g : Int))), (2, .int (iI pl)), (4, .int (iI (i : Int))), (5, .int (iI (movK (ks.getD i (-1)) pl))), (6, .int (iI (t : Int))), (7, .int (iI (t : Int)))]) hx hb dMO_orbitOf_127 hl (k := 3) rfl (by decide) rfl (fun ls hl => ?_)
                        refine lz_iinc (lv' := [(4, .int (iI ((i : Int) + 1))), (3, .int (iI ((L.length : Int) + 1))), (0, .ref q.mo), (1, .int (iI (g : Int))), (2, .int (iI pl)), (5, .int (iI (movK (ks.getD i (-1)) pl))), (6, .int (iI (t : Int))), (7, .int (iI (t : Int)))]) hx hb dMO_orbitOf_130 hl (k := 4) rfl (by decide) rfl (fun ls hl => ?_)
                        refine lv_goto (tgt := 5) hx hb dMO_orbitOf_133 (by decide) ?_
                        obtain ⟨L2, hR2, hi2⟩ := orb_ins (p := movK (ks.getD i (-1)) pl) hR ht (by omega) (by omega) h3 (by rcases h4 with q9 | q9 <;> first | exact Or.inl q9 | exact Or.inr q9)
                        have hl2 := hi2.2
                        rw [show (L.length : Int) + 1 = (L2.length : Int) from by omega] at hl
                        exact ih5 (i + 1) L2 f2 g2 (zu (shf fo1 L.length t) t (movK (ks.getD i (-1)) pl)) (by omega) hR2 (by omega) (orbL_s hO hi2.1) (by omega) _ _ (hP.sub [0, 1, 2, 3, 4, 5] rfl) (hD.sub [0, 1, 2, 3, 4, 5] (by decide) rfl) hS _ (lv_sub hl [2, 3, 4, 1, 0] rfl)
                      · refine lv_aload_n hx hb dMO_orbitOf_96 rfl (lv_at hl 0 rfl) ?_
                        refine va_get (D := D) (ci := 7) (v := .ref q.xo) (C := nMO) (T := fMO) (N := 24) hx hb hts iwMO hown hK hP 0 rfl rfl 19 (by decide) (hts _ (List.mem_cons_of_mem _ lkMO_61)) (fun _ h9 => h9) rfl dMO_orbitOf_97 ?_
                        refine lv_iload hx hb dMO_orbitOf_100 (lv_at hl 7 rfl) ?_
                        refine lv_aload_n hx hb dMO_orbitOf_102 rfl (lv_at hl 0 rfl) ?_
                        refine va_get (D := D) (ci := 7) (v := .ref q.xo) (C := nMO) (T := fMO) (N := 24) hx hb hts iwMO hown hK hP 0 rfl rfl 19 (by decide) (hts _ (List.mem_cons_of_mem _ lkMO_61)) (fun _ h9 => h9) rfl dMO_orbitOf_103 ?_
                        refine lv_iload hx hb dMO_orbitOf_106 (lv_at hl 7 rfl) ?_
                        refine lv_iconst (v := iI (1)) hx hb dMO_orbitOf_108 rfl ?_
                        refine lz_isub hx hb dMO_orbitOf_109 ?_
                        refine lz_ialk hx hb hK hP 5 0 rfl rfl (z := (j : Int) - 1) (j - 1) (by omega) (by omega) dMO_orbitOf_110 ?_
                        refine lz_as (x := (shf fo1 L.length j) (j - 1)) (y := fo1 (j - 1)) (shf_le fo1 (by omega)) ?_
                        refine lz_iask hx hb hK hP hD hS 5 0 rfl rfl (z := (j : Int)) (v := fo1 (j - 1)) j rfl (by omega) dMO_orbitOf_111 (fun H locs hP hD hS => ?_)
                        have hP : va_P D vwCl [(moC q cn gn ln), (q.xm, .inl (cI, 7680, .inl (zf fm))), (q.xz, .inl (cI, 40, .inl (zf fz))), (q.xa, .inl (cI, 9, .inl (zf f2))), (q.ya, .inl (cI, 3, .inl (zf g2))), (q.xo, .inl (cI, 200, .inl (zf (zu (shf fo1 L.length j) j (fo1 (j - 1))))))] H := hP
                        have hD : va_D A [(moC q cn gn ln), (q.xm, .inl (cI, 7680, .inl (zf fm))), (q.xz, .inl (cI, 40, .inl (zf fz))), (q.xa, .inl (cI, 9, .inl (zf f2))), (q.ya, .inl (cI, 3, .inl (zf g2))), (q.xo, .inl (cI, 200, .inl (zf (zu (shf fo1 L.length j) j (fo1 (j - 1))))))] := hD
                        refine lz_iinc (lv' := [(7, .int (iI ((j : Int) + (-1)))), (0, .ref q.mo), (1, .int (iI (g : Int))), (2, .int (iI pl)), (3, .int (iI (L.length : Int))), (4, .int (iI (i : Int))), (5, .int (iI (movK (ks.getD i (-1)) pl))), (6, .int (iI (t : Int)))]) hx hb dMO_orbitOf_112 hl (k := 7) rfl (by decide) rfl (fun ls hl => ?_)
                        refine lv_goto (tgt := 89) hx hb dMO_orbitOf_115 (by decide) ?_
                        rw [show zu (shf fo1 L.length j) j (fo1 (j - 1)) = shf fo1 L.length (j - 1) from shf_s fo1 (by omega) hj] at hP hD
                        rw [show (j : Int) + (-1) = ((j - 1 : Nat) : Int) from by omega] at hl
                        exact ih89 (j - 1) (by omega) (by omega) (by omega) _ _ (hP.sub [0, 1, 2, 3, 4, 5] rfl) (hD.sub [0, 1, 2, 3, 4, 5] (by decide) rfl) hS _ (lv_sub hl [1, 2, 3, 4, 5, 6, 7, 0] rfl)
                  exact lp89 _ L.length (Nat.le_refl _) ht (Nat.lt_succ_self _) _ _ (hP.sub [0, 1, 2, 3, 4, 5] rfl) (hD.sub [0, 1, 2, 3, 4, 5] (by decide) rfl) hS _ (lv_sub hl [1, 2, 3, 4, 5, 6, 7, 0] rfl)
                · refine lv_goto (tgt := 130) hx hb dMO_orbitOf_83 (by decide) ?_
                  refine lz_iinc (lv' := [(4, .int (iI ((i : Int) + 1))), (0, .ref q.mo), (1, .int (iI (g : Int))), (2, .int (iI pl)), (3, .int (iI (L.length : Int))), (5, .int (iI (movK (ks.getD i (-1)) pl))), (6, .int (iI (t : Int)))]) hx hb dMO_orbitOf_130 hl (k := 4) rfl (by decide) rfl (fun ls hl => ?_)
                  refine lv_goto (tgt := 5) hx hb dMO_orbitOf_133 (by decide) ?_
                  exact ih5 (i + 1) L f2 g2 fo1 (by omega) hR (by omega) (orbL_s hO (fun y => ⟨Or.inl, fun q8 => q8.elim id (fun q9 => by rw [q9, ← c_80]; exact getD_mem (by omega))⟩)) (by omega) _ _ (hP.sub [0, 1, 2, 3, 4, 5] rfl) (hD.sub [0, 1, 2, 3, 4, 5] (by decide) rfl) hS _ (lv_sub hl [1, 2, 3, 4, 0] rfl)
            · refine lv_aload_n hx hb dMO_orbitOf_44 rfl (lv_at hl 0 rfl) ?_
              refine va_get (D := D) (ci := 7) (v := .ref q.xo) (C := nMO) (T := fMO) (N := 24) hx hb hts iwMO hown hK hP 0 rfl rfl 19 (by decide) (hts _ (List.mem_cons_of_mem _ lkMO_61)) (fun _ h9 => h9) rfl dMO_orbitOf_45 ?_
              refine lv_iload hx hb dMO_orbitOf_48 (lv_at hl 6 rfl) ?_
              refine lv_iconst (v := iI (1)) hx hb dMO_orbitOf_50 rfl ?_
              refine lz_isub hx hb dMO_orbitOf_51 ?_
              refine lz_ialk hx hb hK hP 5 0 rfl rfl (z := (t : Int) - 1) (t - 1) (by omega) (by omega) dMO_orbitOf_52 ?_
              refine lz_as (x := fo1 (t - 1)) (y := L.getD (t - 1) (-1)) (hR.2.2.1 _ (by omega)) ?_
              refine lv_iload hx hb dMO_orbitOf_53 (lv_at hl 5 rfl) ?_
              refine lz_icmp_le (tgt := 64) hx hb dMO_orbitOf_55 (by decide) (by have := hR.rng (j := t - 1) (by omega); omega) (by omega) (fun c_55 => ?_) (fun c_55 => ?_)
              · refine lv_iload hx hb dMO_orbitOf_64 (lv_at hl 6 rfl) ?_
                refine lz_if_le (tgt := 86) hx hb dMO_orbitOf_66 (by decide) (by omega) (fun c_66 => ?_) (fun c_66 => ?_)
                · have h4 : t = 0 ∨ L.getD (t - 1) (-1) < movK (ks.getD i (-1)) pl := Or.inl (by omega)
                  refine lv_iload_n hx hb dMO_orbitOf_86 rfl (lv_at hl 3 rfl) ?_
                  refine lv_istore (lv' := [(7, .int (iI (L.length : Int))), (0, .ref q.mo), (1, .int (iI (g : Int))), (2, .int (iI pl)), (3, .int (iI (L.length : Int))), (4, .int (iI (i : Int))), (5, .int (iI (movK (ks.getD i (-1)) pl))), (6, .int (iI (t : Int)))]) hx hb dMO_orbitOf_87 hl (by decide) rfl (fun ls hl => ?_)
                  rw [show fo1 = shf fo1 L.length L.length from (shf_k fo1 L.length).symm] at hP hD
                  have lp89 : ∀ (n9 : Nat) (j : Nat), (j ≤ L.length) → (t ≤ j) → (j) < n9 → ∀ (H : Heap) (locs : List Loc), va_P D vwCl [(moC q cn gn ln), (q.xm, .inl (cI, 7680, .inl (zf fm))), (q.xz, .inl (cI, 40, .inl (zf fz))), (q.xa, .inl (cI, 9, .inl (zf f2))), (q.ya, .inl (cI, 3, .inl (zf g2))), (q.xo, .inl (cI, 200, .inl (zf (shf fo1 L.length j))))] H → va_D A [(moC q cn gn ln), (q.xm, .inl (cI, 7680, .inl (zf fm))), (q.xz, .inl (cI, 40, .inl (zf fz))), (q.xa, .inl (cI, 9, .inl (zf f2))), (q.ya, .inl (cI, 3, .inl (zf g2))), (q.xo, .inl (cI, 200, .inl (zf (shf fo1 L.length j))))] → va_S A s.heap H locs → ∀ (ls : Array Slot), lv_has ls 8 [(0, .ref q.mo), (1, .int (iI (g : Int))), (2, .int (iI pl)), (3, .int (iI (L.length : Int))), (4, .int (iI (i : Int))), (5, .int (iI (movK (ks.getD i (-1)) pl))), (6, .int (iI (t : Int))), (7, .int (iI (j : Int)))] → W p l e (headSpec wMO_orbitOf rmMO_orbitOf).room s m args below meth c H locs 0 0 Q (F0 m 89 ls []) := by
                    intro n9
                    induction n9 with
                    | zero => intro j hj hj2 hm; exact absurd hm (Nat.not_lt_zero _)
                    | succ n9 ih89 =>
                      intro j hj hj2 hm89 H locs hP hD hS ls hl
                      refine lv_iload hx hb dMO_orbitOf_89 (lv_at hl 7 rfl) ?_
                      refine lv_iload hx hb dMO_orbitOf_91 (lv_at hl 6 rfl) ?_
                      refine lz_icmp_le (tgt := 118) hx hb dMO_orbitOf_93 (by decide) (by omega) (by omega) (fun c_93 => ?_) (fun c_93 => ?_)
                      · have hjt : j = t := by omega
                        rw [hjt] at hP hD hl
                        refine lv_aload_n hx hb dMO_orbitOf_118 rfl (lv_at hl 0 rfl) ?_
                        refine va_get (D := D) (ci := 7) (v := .ref q.xo) (C := nMO) (T := fMO) (N := 24) hx hb hts iwMO hown hK hP 0 rfl rfl 19 (by decide) (hts _ (List.mem_cons_of_mem _ lkMO_61)) (fun _ h9 => h9) rfl dMO_orbitOf_119 ?_
                        refine lv_iload hx hb dMO_orbitOf_122 (lv_at hl 6 rfl) ?_
                        refine lv_iload hx hb dMO_orbitOf_124 (lv_at hl 5 rfl) ?_
                        refine lz_iask hx hb hK hP hD hS 5 0 rfl rfl (z := (t : Int)) (v := movK (ks.getD i (-1)) pl) t rfl (by omega) dMO_orbitOf_126 (fun H locs hP hD hS => ?_)
                        have hP : va_P D vwCl [(moC q cn gn ln), (q.xm, .inl (cI, 7680, .inl (zf fm))), (q.xz, .inl (cI, 40, .inl (zf fz))), (q.xa, .inl (cI, 9, .inl (zf f2))), (q.ya, .inl (cI, 3, .inl (zf g2))), (q.xo, .inl (cI, 200, .inl (zf (zu (shf fo1 L.length t) t (movK (ks.getD i (-1)) pl)))))] H := hP
                        have hD : va_D A [(moC q cn gn ln), (q.xm, .inl (cI, 7680, .inl (zf fm))), (q.xz, .inl (cI, 40, .inl (zf fz))), (q.xa, .inl (cI, 9, .inl (zf f2))), (q.ya, .inl (cI, 3, .inl (zf g2))), (q.xo, .inl (cI, 200, .inl (zf (zu (shf fo1 L.length t) t (movK (ks.getD i (-1)) pl)))))] := hD
                        refine lz_iinc (lv' := [(3, .int (iI ((L.length : Int) + 1))), (0, .ref q.mo), (1, .int (iI (g : Int))), (2, .int (iI pl)), (4, .int (iI (i : Int))), (5, .int (iI (movK (ks.getD i (-1)) pl))), (6, .int (iI (t : Int))), (7, .int (iI (t : Int)))]) hx hb dMO_orbitOf_127 hl (k := 3) rfl (by decide) rfl (fun ls hl => ?_)
                        refine lz_iinc (lv' := [(4, .int (iI ((i : Int) + 1))), (3, .int (iI ((L.length : Int) + 1))), (0, .ref q.mo), (1, .int (iI (g : Int))), (2, .int (iI pl)), (5, .int (iI (movK (ks.getD i (-1)) pl))), (6, .int (iI (t : Int))), (7, .int (iI (t : Int)))]) hx hb dMO_orbitOf_130 hl (k := 4) rfl (by decide) rfl (fun ls hl => ?_)
                        refine lv_goto (tgt := 5) hx hb dMO_orbitOf_133 (by decide) ?_
                        obtain ⟨L2, hR2, hi2⟩ := orb_ins (p := movK (ks.getD i (-1)) pl) hR ht (by omega) (by omega) h3 (by rcases h4 with q9 | q9 <;> first | exact Or.inl q9 | exact Or.inr q9)
                        have hl2 := hi2.2
                        rw [show (L.length : Int) + 1 = (L2.length : Int) from by omega] at hl
                        exact ih5 (i + 1) L2 f2 g2 (zu (shf fo1 L.length t) t (movK (ks.getD i (-1)) pl)) (by omega) hR2 (by omega) (orbL_s hO hi2.1) (by omega) _ _ (hP.sub [0, 1, 2, 3, 4, 5] rfl) (hD.sub [0, 1, 2, 3, 4, 5] (by decide) rfl) hS _ (lv_sub hl [2, 3, 4, 1, 0] rfl)
                      · refine lv_aload_n hx hb dMO_orbitOf_96 rfl (lv_at hl 0 rfl) ?_
                        refine va_get (D := D) (ci := 7) (v := .ref q.xo) (C := nMO) (T := fMO) (N := 24) hx hb hts iwMO hown hK hP 0 rfl rfl 19 (by decide) (hts _ (List.mem_cons_of_mem _ lkMO_61)) (fun _ h9 => h9) rfl dMO_orbitOf_97 ?_
                        refine lv_iload hx hb dMO_orbitOf_100 (lv_at hl 7 rfl) ?_
                        refine lv_aload_n hx hb dMO_orbitOf_102 rfl (lv_at hl 0 rfl) ?_
                        refine va_get (D := D) (ci := 7) (v := .ref q.xo) (C := nMO) (T := fMO) (N := 24) hx hb hts iwMO hown hK hP 0 rfl rfl 19 (by decide) (hts _ (List.mem_cons_of_mem _ lkMO_61)) (fun _ h9 => h9) rfl dMO_orbitOf_103 ?_
                        refine lv_iload hx hb dMO_orbitOf_106 (lv_at hl 7 rfl) ?_
                        refine lv_iconst (v := iI (1)) hx hb dMO_orbitOf_108 rfl ?_
                        refine lz_isub hx hb dMO_orbitOf_109 ?_
                        refine lz_ialk hx hb hK hP 5 0 rfl rfl (z := (j : Int) - 1) (j - 1) (by omega) (by omega) dMO_orbitOf_110 ?_
                        refine lz_as (x := (shf fo1 L.length j) (j - 1)) (y := fo1 (j - 1)) (shf_le fo1 (by omega)) ?_
                        refine lz_iask hx hb hK hP hD hS 5 0 rfl rfl (z := (j : Int)) (v := fo1 (j - 1)) j rfl (by omega) dMO_orbitOf_111 (fun H locs hP hD hS => ?_)
                        have hP : va_P D vwCl [(moC q cn gn ln), (q.xm, .inl (cI, 7680, .inl (zf fm))), (q.xz, .inl (cI, 40, .inl (zf fz))), (q.xa, .inl (cI, 9, .inl (zf f2))), (q.ya, .inl (cI, 3, .inl (zf g2))), (q.xo, .inl (cI, 200, .inl (zf (zu (shf fo1 L.length j) j (fo1 (j - 1))))))] H := hP
                        have hD : va_D A [(moC q cn gn ln), (q.xm, .inl (cI, 7680, .inl (zf fm))), (q.xz, .inl (cI, 40, .inl (zf fz))), (q.xa, .inl (cI, 9, .inl (zf f2))), (q.ya, .inl (cI, 3, .inl (zf g2))), (q.xo, .inl (cI, 200, .inl (zf (zu (shf fo1 L.length j) j (fo1 (j - 1))))))] := hD
                        refine lz_iinc (lv' := [(7, .int (iI ((j : Int) + (-1)))), (0, .ref q.mo), (1, .int (iI (g : Int))), (2, .int (iI pl)), (3, .int (iI (L.length : Int))), (4, .int (iI (i : Int))), (5, .int (iI (movK (ks.getD i (-1)) pl))), (6, .int (iI (t : Int)))]) hx hb dMO_orbitOf_112 hl (k := 7) rfl (by decide) rfl (fun ls hl => ?_)
                        refine lv_goto (tgt := 89) hx hb dMO_orbitOf_115 (by decide) ?_
                        rw [show zu (shf fo1 L.length j) j (fo1 (j - 1)) = shf fo1 L.length (j - 1) from shf_s fo1 (by omega) hj] at hP hD
                        rw [show (j : Int) + (-1) = ((j - 1 : Nat) : Int) from by omega] at hl
                        exact ih89 (j - 1) (by omega) (by omega) (by omega) _ _ (hP.sub [0, 1, 2, 3, 4, 5] rfl) (hD.sub [0, 1, 2, 3, 4, 5] (by decide) rfl) hS _ (lv_sub hl [1, 2, 3, 4, 5, 6, 7, 0] rfl)
                  exact lp89 _ L.length (Nat.le_refl _) ht (Nat.lt_succ_self _) _ _ (hP.sub [0, 1, 2, 3, 4, 5] rfl) (hD.sub [0, 1, 2, 3, 4, 5] (by decide) rfl) hS _ (lv_sub hl [1, 2, 3, 4, 5, 6, 7, 0] rfl)
                · refine lv_aload_n hx hb dMO_orbitOf_69 rfl (lv_at hl 0 rfl) ?_
                  refine va_get (D := D) (ci := 7) (v := .ref q.xo) (C := nMO) (T := fMO) (N := 24) hx hb hts iwMO hown hK hP 0 rfl rfl 19 (by decide) (hts _ (List.mem_cons_of_mem _ lkMO_61)) (fun _ h9 => h9) rfl dMO_orbitOf_70 ?_
                  refine lv_iload hx hb dMO_orbitOf_73 (lv_at hl 6 rfl) ?_
                  refine lv_iconst (v := iI (1)) hx hb dMO_orbitOf_75 rfl ?_
                  refine lz_isub hx hb dMO_orbitOf_76 ?_
                  refine lz_ialk hx hb hK hP 5 0 rfl rfl (z := (t : Int) - 1) (t - 1) (by omega) (by omega) dMO_orbitOf_77 ?_
                  refine lz_as (x := fo1 (t - 1)) (y := L.getD (t - 1) (-1)) (hR.2.2.1 _ (by omega)) ?_
                  refine lv_iload hx hb dMO_orbitOf_78 (lv_at hl 5 rfl) ?_
                  refine lz_icmp_ne (tgt := 86) hx hb dMO_orbitOf_80 (by decide) (by have := hR.rng (j := t - 1) (by omega); omega) (by omega) (fun c_80 => ?_) (fun c_80 => ?_)
                  · have h4 : t = 0 ∨ L.getD (t - 1) (-1) < movK (ks.getD i (-1)) pl := Or.inr (by omega)
                    refine lv_iload_n hx hb dMO_orbitOf_86 rfl (lv_at hl 3 rfl) ?_
                    refine lv_istore (lv' := [(7, .int (iI (L.length : Int))), (0, .ref q.mo), (1, .int (iI (g : Int))), (2, .int (iI pl)), (3, .int (iI (L.length : Int))), (4, .int (iI (i : Int))), (5, .int (iI (movK (ks.getD i (-1)) pl))), (6, .int (iI (t : Int)))]) hx hb dMO_orbitOf_87 hl (by decide) rfl (fun ls hl => ?_)
                    rw [show fo1 = shf fo1 L.length L.length from (shf_k fo1 L.length).symm] at hP hD
                    have lp89 : ∀ (n9 : Nat) (j : Nat), (j ≤ L.length) → (t ≤ j) → (j) < n9 → ∀ (H : Heap) (locs : List Loc), va_P D vwCl [(moC q cn gn ln), (q.xm, .inl (cI, 7680, .inl (zf fm))), (q.xz, .inl (cI, 40, .inl (zf fz))), (q.xa, .inl (cI, 9, .inl (zf f2))), (q.ya, .inl (cI, 3, .inl (zf g2))), (q.xo, .inl (cI, 200, .inl (zf (shf fo1 L.length j))))] H → va_D A [(moC q cn gn ln), (q.xm, .inl (cI, 7680, .inl (zf fm))), (q.xz, .inl (cI, 40, .inl (zf fz))), (q.xa, .inl (cI, 9, .inl (zf f2))), (q.ya, .inl (cI, 3, .inl (zf g2))), (q.xo, .inl (cI, 200, .inl (zf (shf fo1 L.length j))))] → va_S A s.heap H locs → ∀ (ls : Array Slot), lv_has ls 8 [(0, .ref q.mo), (1, .int (iI (g : Int))), (2, .int (iI pl)), (3, .int (iI (L.length : Int))), (4, .int (iI (i : Int))), (5, .int (iI (movK (ks.getD i (-1)) pl))), (6, .int (iI (t : Int))), (7, .int (iI (j : Int)))] → W p l e (headSpec wMO_orbitOf rmMO_orbitOf).room s m args below meth c H locs 0 0 Q (F0 m 89 ls []) := by
                      intro n9
                      induction n9 with
                      | zero => intro j hj hj2 hm; exact absurd hm (Nat.not_lt_zero _)
                      | succ n9 ih89 =>
                        intro j hj hj2 hm89 H locs hP hD hS ls hl
                        refine lv_iload hx hb dMO_orbitOf_89 (lv_at hl 7 rfl) ?_
                        refine lv_iload hx hb dMO_orbitOf_91 (lv_at hl 6 rfl) ?_
                        refine lz_icmp_le (tgt := 118) hx hb dMO_orbitOf_93 (by decide) (by omega) (by omega) (fun c_93 => ?_) (fun c_93 => ?_)
                        · have hjt : j = t := by omega
                          rw [hjt] at hP hD hl
                          refine lv_aload_n hx hb dMO_orbitOf_118 rfl (lv_at hl 0 rfl) ?_
                          refine va_get (D := D) (ci := 7) (v := .ref q.xo) (C := nMO) (T := fMO) (N := 24) hx hb hts iwMO hown hK hP 0 rfl rfl 19 (by decide) (hts _ (List.mem_cons_of_mem _ lkMO_61)) (fun _ h9 => h9) rfl dMO_orbitOf_119 ?_
                          refine lv_iload hx hb dMO_orbitOf_122 (lv_at hl 6 rfl) ?_
                          refine lv_iload hx hb dMO_orbitOf_124 (lv_at hl 5 rfl) ?_
                          refine lz_iask hx hb hK hP hD hS 5 0 rfl rfl (z := (t : Int)) (v := movK (ks.getD i (-1)) pl) t rfl (by omega) dMO_orbitOf_126 (fun H locs hP hD hS => ?_)
                          have hP : va_P D vwCl [(moC q cn gn ln), (q.xm, .inl (cI, 7680, .inl (zf fm))), (q.xz, .inl (cI, 40, .inl (zf fz))), (q.xa, .inl (cI, 9, .inl (zf f2))), (q.ya, .inl (cI, 3, .inl (zf g2))), (q.xo, .inl (cI, 200, .inl (zf (zu (shf fo1 L.length t) t (movK (ks.getD i (-1)) pl)))))] H := hP
                          have hD : va_D A [(moC q cn gn ln), (q.xm, .inl (cI, 7680, .inl (zf fm))), (q.xz, .inl (cI, 40, .inl (zf fz))), (q.xa, .inl (cI, 9, .inl (zf f2))), (q.ya, .inl (cI, 3, .inl (zf g2))), (q.xo, .inl (cI, 200, .inl (zf (zu (shf fo1 L.length t) t (movK (ks.getD i (-1)) pl)))))] := hD
                          refine lz_iinc (lv' := [(3, .int (iI ((L.length : Int) + 1))), (0, .ref q.mo), (1, .int (iI (g : Int))), (2, .int (iI pl)), (4, .int (iI (i : Int))), (5, .int (iI (movK (ks.getD i (-1)) pl))), (6, .int (iI (t : Int))), (7, .int (iI (t : Int)))]) hx hb dMO_orbitOf_127 hl (k := 3) rfl (by decide) rfl (fun ls hl => ?_)
                          refine lz_iinc (lv' := [(4, .int (iI ((i : Int) + 1))), (3, .int (iI ((L.length : Int) + 1))), (0, .ref q.mo), (1, .int (iI (g : Int))), (2, .int (iI pl)), (5, .int (iI (movK (ks.getD i (-1)) pl))), (6, .int (iI (t : Int))), (7, .int (iI (t : Int)))]) hx hb dMO_orbitOf_130 hl (k := 4) rfl (by decide) rfl (fun ls hl => ?_)
                          refine lv_goto (tgt := 5) hx hb dMO_orbitOf_133 (by decide) ?_
                          obtain ⟨L2, hR2, hi2⟩ := orb_ins (p := movK (ks.getD i (-1)) pl) hR ht (by omega) (by omega) h3 (by rcases h4 with q9 | q9 <;> first | exact Or.inl q9 | exact Or.inr q9)
                          have hl2 := hi2.2
                          rw [show (L.length : Int) + 1 = (L2.length : Int) from by omega] at hl
                          exact ih5 (i + 1) L2 f2 g2 (zu (shf fo1 L.length t) t (movK (ks.getD i (-1)) pl)) (by omega) hR2 (by omega) (orbL_s hO hi2.1) (by omega) _ _ (hP.sub [0, 1, 2, 3, 4, 5] rfl) (hD.sub [0, 1, 2, 3, 4, 5] (by decide) rfl) hS _ (lv_sub hl [2, 3, 4, 1, 0] rfl)
                        · refine lv_aload_n hx hb dMO_orbitOf_96 rfl (lv_at hl 0 rfl) ?_
                          refine va_get (D := D) (ci := 7) (v := .ref q.xo) (C := nMO) (T := fMO) (N := 24) hx hb hts iwMO hown hK hP 0 rfl rfl 19 (by decide) (hts _ (List.mem_cons_of_mem _ lkMO_61)) (fun _ h9 => h9) rfl dMO_orbitOf_97 ?_
                          refine lv_iload hx hb dMO_orbitOf_100 (lv_at hl 7 rfl) ?_
                          refine lv_aload_n hx hb dMO_orbitOf_102 rfl (lv_at hl 0 rfl) ?_
                          refine va_get (D := D) (ci := 7) (v := .ref q.xo) (C := nMO) (T := fMO) (N := 24) hx hb hts iwMO hown hK hP 0 rfl rfl 19 (by decide) (hts _ (List.mem_cons_of_mem _ lkMO_61)) (fun _ h9 => h9) rfl dMO_orbitOf_103 ?_
                          refine lv_iload hx hb dMO_orbitOf_106 (lv_at hl 7 rfl) ?_
                          refine lv_iconst (v := iI (1)) hx hb dMO_orbitOf_108 rfl ?_
                          refine lz_isub hx hb dMO_orbitOf_109 ?_
                          refine lz_ialk hx hb hK hP 5 0 rfl rfl (z := (j : Int) - 1) (j - 1) (by omega) (by omega) dMO_orbitOf_110 ?_
                          refine lz_as (x := (shf fo1 L.length j) (j - 1)) (y := fo1 (j - 1)) (shf_le fo1 (by omega)) ?_
                          refine lz_iask hx hb hK hP hD hS 5 0 rfl rfl (z := (j : Int)) (v := fo1 (j - 1)) j rfl (by omega) dMO_orbitOf_111 (fun H locs hP hD hS => ?_)
                          have hP : va_P D vwCl [(moC q cn gn ln), (q.xm, .inl (cI, 7680, .inl (zf fm))), (q.xz, .inl (cI, 40, .inl (zf fz))), (q.xa, .inl (cI, 9, .inl (zf f2))), (q.ya, .inl (cI, 3, .inl (zf g2))), (q.xo, .inl (cI, 200, .inl (zf (zu (shf fo1 L.length j) j (fo1 (j - 1))))))] H := hP
                          have hD : va_D A [(moC q cn gn ln), (q.xm, .inl (cI, 7680, .inl (zf fm))), (q.xz, .inl (cI, 40, .inl (zf fz))), (q.xa, .inl (cI, 9, .inl (zf f2))), (q.ya, .inl (cI, 3, .inl (zf g2))), (q.xo, .inl (cI, 200, .inl (zf (zu (shf fo1 L.length j) j (fo1 (j - 1))))))] := hD
                          refine lz_iinc (lv' := [(7, .int (iI ((j : Int) + (-1)))), (0, .ref q.mo), (1, .int (iI (g : Int))), (2, .int (iI pl)), (3, .int (iI (L.length : Int))), (4, .int (iI (i : Int))), (5, .int (iI (movK (ks.getD i (-1)) pl))), (6, .int (iI (t : Int)))]) hx hb dMO_orbitOf_112 hl (k := 7) rfl (by decide) rfl (fun ls hl => ?_)
                          refine lv_goto (tgt := 89) hx hb dMO_orbitOf_115 (by decide) ?_
                          rw [show zu (shf fo1 L.length j) j (fo1 (j - 1)) = shf fo1 L.length (j - 1) from shf_s fo1 (by omega) hj] at hP hD
                          rw [show (j : Int) + (-1) = ((j - 1 : Nat) : Int) from by omega] at hl
                          exact ih89 (j - 1) (by omega) (by omega) (by omega) _ _ (hP.sub [0, 1, 2, 3, 4, 5] rfl) (hD.sub [0, 1, 2, 3, 4, 5] (by decide) rfl) hS _ (lv_sub hl [1, 2, 3, 4, 5, 6, 7, 0] rfl)
                    exact lp89 _ L.length (Nat.le_refl _) ht (Nat.lt_succ_self _) _ _ (hP.sub [0, 1, 2, 3, 4, 5] rfl) (hD.sub [0, 1, 2, 3, 4, 5] (by decide) rfl) hS _ (lv_sub hl [1, 2, 3, 4, 5, 6, 7, 0] rfl)
                  · refine lv_goto (tgt := 130) hx hb dMO_orbitOf_83 (by decide) ?_
                    refine lz_iinc (lv' := [(4, .int (iI ((i : Int) + 1))), (0, .ref q.mo), (1, .int (iI (g : Int))), (2, .int (iI pl)), (3, .int (iI (L.length : Int))), (5, .int (iI (movK (ks.getD i (-1)) pl))), (6, .int (iI (t : Int)))]) hx hb dMO_orbitOf_130 hl (k := 4) rfl (by decide) rfl (fun ls hl => ?_)
                    refine lv_goto (tgt := 5) hx hb dMO_orbitOf_133 (by decide) ?_
                    exact ih5 (i + 1) L f2 g2 fo1 (by omega) hR (by omega) (orbL_s hO (fun y => ⟨Or.inl, fun q8 => q8.elim id (fun q9 => by rw [q9, ← c_80]; exact getD_mem (by omega))⟩)) (by omega) _ _ (hP.sub [0, 1, 2, 3, 4, 5] rfl) (hD.sub [0, 1, 2, 3, 4, 5] (by decide) rfl) hS _ (lv_sub hl [1, 2, 3, 4, 0] rfl)
              · refine lz_iinc (lv' := [(6, .int (iI ((t : Int) + (-1)))), (0, .ref q.mo), (1, .int (iI (g : Int))), (2, .int (iI pl)), (3, .int (iI (L.length : Int))), (4, .int (iI (i : Int))), (5, .int (iI (movK (ks.getD i (-1)) pl)))]) hx hb dMO_orbitOf_58 hl (k := 6) rfl (by decide) rfl (fun ls hl => ?_)
                refine lv_goto (tgt := 39) hx hb dMO_orbitOf_61 (by decide) ?_
                rw [show (t : Int) + (-1) = ((t - 1 : Nat) : Int) from by omega] at hl
                exact ih39 (t - 1) (by omega) (fun j h8 h9 => by
                    by_cases e : j = t - 1
                    · rw [e]; exact c_55
                    · exact h3 j (by omega) h9) (by omega) _ _ (hP.sub [0, 1, 2, 3, 4, 5] rfl) (hD.sub [0, 1, 2, 3, 4, 5] (by decide) rfl) hS _ (lv_sub hl [1, 2, 3, 4, 5, 6, 0] rfl)
        exact lp39 _ L.length (Nat.le_refl _) (fun j h8 h9 => by omega) (Nat.lt_succ_self _) _ _ (hP.sub [3, 0, 1, 4, 5, 2] rfl) (hD.sub [3, 0, 1, 4, 5, 2] (by decide) rfl) hS _ (lv_sub hl [2, 3, 4, 5, 6, 1, 0] rfl)
  exact lp5 _ 0 ([]) fa ga fo (Nat.zero_le _) ⟨by decide, by decide, fun j hj => absurd hj (Nat.not_lt_zero _), List.Pairwise.nil, fun x hx => absurd hx List.not_mem_nil⟩ (Nat.le_refl _) (fun y => ⟨fun hy => absurd hy List.not_mem_nil, fun ⟨j, hj, _⟩ => absurd hj (Nat.not_lt_zero _)⟩) (Nat.lt_succ_self _) _ _ (hP.sub [0, 1, 2, 3, 4, 5] rfl) (hD.sub [0, 1, 2, 3, 4, 5] (by decide) rfl) hS _ (lv_sub hl [2, 3, 4, 1, 0] rfl)
