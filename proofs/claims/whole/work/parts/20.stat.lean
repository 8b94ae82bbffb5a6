/-! static methods: written by wip/whole/gengr.py -/
def rmGH_isNine : Room := { frames := 0, cells := 0, slots := 0, locals := 0 }
set_option maxHeartbeats 4000000 in
set_option maxRecDepth 100000 in
theorem mGH_isNine (l : Launch) (D : va_G) (cI cG : ClassId) (x : Int) (hx1 : -2147483648 ≤ x ∧ x < 2147483648) : zRI l yGH_isNine wGH_isNine rmGH_isNine D vwCl (zT cI cG) [.int (iI x)] [] (fun z => (z = 1 ∧ 0 ≤ x ∧ x < 19683) ∨ (z = 0 ∧ ¬ (0 ≤ x ∧ x < 19683))) := by
  refine zRI.of (cc := cGH_isNine) (maxL := 1) (rt := .boolean) (by decide) rfl (Nat.le_of_ble_eq_true rfl) (fun z h => by rcases h with ⟨rfl, _⟩ | ⟨rfl, _⟩ <;> decide) ?_
  intro p e s m args below meth c ls Q hx hb hml hown hts hK hP hX hl hret
  have hS0 : va_S (fun _ => False) s.heap s.heap [] := va_S.rf
  have hl : lv_has ls 1 [(0, .int (iI x))] := hl
  refine lv_iload_n hx hb dGH_isNine_0 rfl (lv_at hl 0 rfl) ?_
  refine lz_if_lt (tgt := 15) hx hb dGH_isNine_1 (by decide) (by omega) (fun c_1 => ?_) (fun c_1 => ?_)
  · refine lv_iconst (v := iI (0)) hx hb dGH_isNine_15 rfl ?_
    exact hret 16 ls 0 (Or.inr ⟨rfl, by omega⟩) dGH_isNine_16
  · refine lv_iload_n hx hb dGH_isNine_4 rfl (lv_at hl 0 rfl) ?_
    refine lv_sipush (v := iI (19683)) hx hb dGH_isNine_5 (by decide) ?_
    refine lz_icmp_ge (tgt := 15) hx hb dGH_isNine_8 (by decide) (by omega) (by omega) (fun c_8 => ?_) (fun c_8 => ?_)
    · refine lv_iconst (v := iI (0)) hx hb dGH_isNine_15 rfl ?_
      exact hret 16 ls 0 (Or.inr ⟨rfl, by omega⟩) dGH_isNine_16
    · refine lv_iconst (v := iI (1)) hx hb dGH_isNine_11 rfl ?_
      refine lv_goto (tgt := 16) hx hb dGH_isNine_12 (by decide) ?_
      exact hret 16 ls 1 (Or.inl ⟨rfl, by omega⟩) dGH_isNine_16

def rmGH_isPlace : Room := { frames := 0, cells := 0, slots := 0, locals := 0 }
set_option maxHeartbeats 4000000 in
set_option maxRecDepth 100000 in
theorem mGH_isPlace (l : Launch) (D : va_G) (cI cG : ClassId) (x : Int) (hx1 : -2147483648 ≤ x ∧ x < 2147483648) : zRI l yGH_isPlace wGH_isPlace rmGH_isPlace D vwCl (zT cI cG) [.int (iI x)] [] (fun z => (z = 1 ∧ 0 ≤ x ∧ x < 13824) ∨ (z = 0 ∧ ¬ (0 ≤ x ∧ x < 13824))) := by
  refine zRI.of (cc := cGH_isPlace) (maxL := 1) (rt := .boolean) (by decide) rfl (Nat.le_of_ble_eq_true rfl) (fun z h => by rcases h with ⟨rfl, _⟩ | ⟨rfl, _⟩ <;> decide) ?_
  intro p e s m args below meth c ls Q hx hb hml hown hts hK hP hX hl hret
  have hS0 : va_S (fun _ => False) s.heap s.heap [] := va_S.rf
  have hl : lv_has ls 1 [(0, .int (iI x))] := hl
  refine lv_iload_n hx hb dGH_isPlace_0 rfl (lv_at hl 0 rfl) ?_
  refine lz_if_lt (tgt := 15) hx hb dGH_isPlace_1 (by decide) (by omega) (fun c_1 => ?_) (fun c_1 => ?_)
  · refine lv_iconst (v := iI (0)) hx hb dGH_isPlace_15 rfl ?_
    exact hret 16 ls 0 (Or.inr ⟨rfl, by omega⟩) dGH_isPlace_16
  · refine lv_iload_n hx hb dGH_isPlace_4 rfl (lv_at hl 0 rfl) ?_
    refine lv_sipush (v := iI (13824)) hx hb dGH_isPlace_5 (by decide) ?_
    refine lz_icmp_ge (tgt := 15) hx hb dGH_isPlace_8 (by decide) (by omega) (by omega) (fun c_8 => ?_) (fun c_8 => ?_)
    · refine lv_iconst (v := iI (0)) hx hb dGH_isPlace_15 rfl ?_
      exact hret 16 ls 0 (Or.inr ⟨rfl, by omega⟩) dGH_isPlace_16
    · refine lv_iconst (v := iI (1)) hx hb dGH_isPlace_11 rfl ?_
      refine lv_goto (tgt := 16) hx hb dGH_isPlace_12 (by decide) ?_
      exact hret 16 ls 1 (Or.inl ⟨rfl, by omega⟩) dGH_isPlace_16

def rmGH_digitOf : Room := { frames := 0, cells := 0, slots := 0, locals := 0 }
set_option maxHeartbeats 4000000 in
set_option maxRecDepth 100000 in
theorem mGH_digitOf (l : Launch) (D : va_G) (cI cG : ClassId) (x : Int) (hx1 : -6 ≤ x ∧ x ≤ 6) : zRI l yGH_digitOf wGH_digitOf rmGH_digitOf D vwCl (zT cI cG) [.int (iI x)] [] (fun z => z = digK x) := by
  refine zRI.of (cc := cGH_digitOf) (maxL := 1) (rt := .int) (by decide) rfl (Nat.le_of_ble_eq_true rfl) (fun _ _ => rfl) ?_
  intro p e s m args below meth c ls Q hx hb hml hown hts hK hP hX hl hret
  have hS0 : va_S (fun _ => False) s.heap s.heap [] := va_S.rf
  have hl : lv_has ls 1 [(0, .int (iI x))] := hl
  refine lv_iload_n hx hb dGH_digitOf_0 rfl (lv_at hl 0 rfl) ?_
  rcases (show x = (-6) ∨ x = (-5) ∨ x = (-4) ∨ x = (-3) ∨ x = (-2) ∨ x = (-1) ∨ x = 0 ∨ x = 1 ∨ x = 2 ∨ x = 3 ∨ x = 4 ∨ x = 5 ∨ x = 6 ∨ (x < (-6) ∨ 6 < x) from by omega) with c_1 | c_1 | c_1 | c_1 | c_1 | c_1 | c_1 | c_1 | c_1 | c_1 | c_1 | c_1 | c_1 | c_1
  · refine lv_tableIn (tgt := 94) hx hb dGH_digitOf_1 (by rw [iI_toInt (by omega)]; omega) (by rw [iI_toInt (by omega)]; omega) (by rw [iI_toInt (by omega), c_1]; rfl) (by decide) ?_
    refine lv_iconst (v := iI (1)) hx hb dGH_digitOf_94 rfl ?_
    exact hret 95 ls 1 (by unfold digK; (repeat rw [if_neg (by omega)]) <;> first | rfl | rw [if_pos c_1]) dGH_digitOf_95
  · refine lv_tableIn (tgt := 96) hx hb dGH_digitOf_1 (by rw [iI_toInt (by omega)]; omega) (by rw [iI_toInt (by omega)]; omega) (by rw [iI_toInt (by omega), c_1]; rfl) (by decide) ?_
    refine lv_iconst (v := iI (0)) hx hb dGH_digitOf_96 rfl ?_
    exact hret 97 ls 0 (by unfold digK; (repeat rw [if_neg (by omega)]) <;> first | rfl | rw [if_pos c_1]) dGH_digitOf_97
  · refine lv_tableIn (tgt := 91) hx hb dGH_digitOf_1 (by rw [iI_toInt (by omega)]; omega) (by rw [iI_toInt (by omega)]; omega) (by rw [iI_toInt (by omega), c_1]; rfl) (by decide) ?_
    refine lv_bipush (v := iI (10)) hx hb dGH_digitOf_91 (by decide) ?_
    exact hret 93 ls 10 (by unfold digK; (repeat rw [if_neg (by omega)]) <;> first | rfl | rw [if_pos c_1]) dGH_digitOf_93
  · refine lv_tableIn (tgt := 88) hx hb dGH_digitOf_1 (by rw [iI_toInt (by omega)]; omega) (by rw [iI_toInt (by omega)]; omega) (by rw [iI_toInt (by omega), c_1]; rfl) (by decide) ?_
    refine lv_bipush (v := iI (100)) hx hb dGH_digitOf_88 (by decide) ?_
    exact hret 90 ls 100 (by unfold digK; (repeat rw [if_neg (by omega)]) <;> first | rfl | rw [if_pos c_1]) dGH_digitOf_90
  · refine lv_tableIn (tgt := 84) hx hb dGH_digitOf_1 (by rw [iI_toInt (by omega)]; omega) (by rw [iI_toInt (by omega)]; omega) (by rw [iI_toInt (by omega), c_1]; rfl) (by decide) ?_
    refine lv_sipush (v := iI (1000)) hx hb dGH_digitOf_84 (by decide) ?_
    exact hret 87 ls 1000 (by unfold digK; (repeat rw [if_neg (by omega)]) <;> first | rfl | rw [if_pos c_1]) dGH_digitOf_87
  · refine lv_tableIn (tgt := 80) hx hb dGH_digitOf_1 (by rw [iI_toInt (by omega)]; omega) (by rw [iI_toInt (by omega)]; omega) (by rw [iI_toInt (by omega), c_1]; rfl) (by decide) ?_
    refine lv_sipush (v := iI (10000)) hx hb dGH_digitOf_80 (by decide) ?_
    exact hret 83 ls 10000 (by unfold digK; (repeat rw [if_neg (by omega)]) <;> first | rfl | rw [if_pos c_1]) dGH_digitOf_83
  · refine lv_tableIn (tgt := 96) hx hb dGH_digitOf_1 (by rw [iI_toInt (by omega)]; omega) (by rw [iI_toInt (by omega)]; omega) (by rw [iI_toInt (by omega), c_1]; rfl) (by decide) ?_
    refine lv_iconst (v := iI (0)) hx hb dGH_digitOf_96 rfl ?_
    exact hret 97 ls 0 (by unfold digK; (repeat rw [if_neg (by omega)]) <;> first | rfl | rw [if_pos c_1]) dGH_digitOf_97
  · refine lv_tableIn (tgt := 96) hx hb dGH_digitOf_1 (by rw [iI_toInt (by omega)]; omega) (by rw [iI_toInt (by omega)]; omega) (by rw [iI_toInt (by omega), c_1]; rfl) (by decide) ?_
    refine lv_iconst (v := iI (0)) hx hb dGH_digitOf_96 rfl ?_
    exact hret 97 ls 0 (by unfold digK; (repeat rw [if_neg (by omega)]) <;> first | rfl | rw [if_pos c_1]) dGH_digitOf_97
  · refine lv_tableIn (tgt := 68) hx hb dGH_digitOf_1 (by rw [iI_toInt (by omega)]; omega) (by rw [iI_toInt (by omega)]; omega) (by rw [iI_toInt (by omega), c_1]; rfl) (by decide) ?_
    refine lz_ldc (z := 100000000) hx hb hown (hts _ (List.mem_cons_of_mem _ lkGH_174)) (by decide) dGH_digitOf_68 ?_
    exact hret 70 ls 100000000 (by unfold digK; (repeat rw [if_neg (by omega)]) <;> first | rfl | rw [if_pos c_1]) dGH_digitOf_70
  · refine lv_tableIn (tgt := 71) hx hb dGH_digitOf_1 (by rw [iI_toInt (by omega)]; omega) (by rw [iI_toInt (by omega)]; omega) (by rw [iI_toInt (by omega), c_1]; rfl) (by decide) ?_
    refine lz_ldc (z := 10000000) hx hb hown (hts _ (List.mem_cons_of_mem _ lkGH_175)) (by decide) dGH_digitOf_71 ?_
    exact hret 73 ls 10000000 (by unfold digK; (repeat rw [if_neg (by omega)]) <;> first | rfl | rw [if_pos c_1]) dGH_digitOf_73
  · refine lv_tableIn (tgt := 74) hx hb dGH_digitOf_1 (by rw [iI_toInt (by omega)]; omega) (by rw [iI_toInt (by omega)]; omega) (by rw [iI_toInt (by omega), c_1]; rfl) (by decide) ?_
    refine lz_ldc (z := 1000000) hx hb hown (hts _ (List.mem_cons_of_mem _ lkGH_176)) (by decide) dGH_digitOf_74 ?_
    exact hret 76 ls 1000000 (by unfold digK; (repeat rw [if_neg (by omega)]) <;> first | rfl | rw [if_pos c_1]) dGH_digitOf_76
  · refine lv_tableIn (tgt := 96) hx hb dGH_digitOf_1 (by rw [iI_toInt (by omega)]; omega) (by rw [iI_toInt (by omega)]; omega) (by rw [iI_toInt (by omega), c_1]; rfl) (by decide) ?_
    refine lv_iconst (v := iI (0)) hx hb dGH_digitOf_96 rfl ?_
    exact hret 97 ls 0 (by unfold digK; (repeat rw [if_neg (by omega)]) <;> first | rfl | rw [if_pos c_1]) dGH_digitOf_97
  · refine lv_tableIn (tgt := 77) hx hb dGH_digitOf_1 (by rw [iI_toInt (by omega)]; omega) (by rw [iI_toInt (by omega)]; omega) (by rw [iI_toInt (by omega), c_1]; rfl) (by decide) ?_
    refine lz_ldc (z := 100000) hx hb hown (hts _ (List.mem_cons_of_mem _ lkGH_177)) (by decide) dGH_digitOf_77 ?_
    exact hret 79 ls 100000 (by unfold digK; (repeat rw [if_neg (by omega)]) <;> first | rfl | rw [if_pos c_1]) dGH_digitOf_79
  · refine lv_tableOut (tgt := 96) hx hb dGH_digitOf_1 (by rw [iI_toInt (by omega)]; omega) (by decide) ?_
    refine lv_iconst (v := iI (0)) hx hb dGH_digitOf_96 rfl ?_
    exact hret 97 ls 0 (by unfold digK; (repeat rw [if_neg (by omega)]) <;> first | rfl | rw [if_pos c_1]) dGH_digitOf_97

def rmGH_classOf : Room := { frames := 3, cells := 0, slots := 0, locals := 67 }
set_option maxHeartbeats 4000000 in
set_option maxRecDepth 100000 in
theorem mGH_classOf (l : Launch) (D : va_G) (cI cG : ClassId) (r a n : Nat) (f : Nat → Int) (ks : List Int) (b lf rt : Nat) (gl gr : Nat → Int) (h : rowOK n f ks) (hsum : 0 ≤ rowT ks ks.length ∧ rowT ks ks.length < 2147483648) : zI l yGH_classOf wGH_classOf rmGH_classOf D vwCl (zT cI cG) [.ref r, .ref b] [(r, .inr (5, [.ref a, .int (iI (ks.length : Int))])), (a, .inl (cI, n, .inl (zf f))), (b, .inr (1, [.ref lf, .ref rt])), (lf, .inl (cI, 9, .inl (zf gl))), (rt, .inl (cI, 9, .inl (zf gr)))] (S := (Nat → Int)) (fun z u => clsF (rowT ks ks.length) z) (fun u => [(r, .inr (5, [.ref a, .int (iI (ks.length : Int))])), (a, .inl (cI, n, .inl (zf f))), (b, .inr (1, [.ref lf, .ref rt])), (lf, .inl (cI, 9, .inl (zf u))), (rt, .inl (cI, 9, .inl (zf gr)))]) := by
  refine zI.of (cc := cGH_classOf) (maxL := 6) (rt := .int) (by decide) rfl (Nat.le_of_ble_eq_true rfl) (fun _ _ _ => rfl) ?_
  intro p e s m args below meth c A ls Q hx hb hml hown hts hnm hK hD hA hAe hX hl hret H locs hP hS
  have hl : lv_has ls 6 [(0, .ref r), (1, .ref b)] := hl
  obtain ⟨tS, tC, hZS, hTS, hZC, hTC, hWn⟩ := id hX
  have hb1 := h.1
  have hb2 := h.2.1
  have hrg := @rowOK.rng n f ks h
  refine lv_iconst (v := iI (0)) hx hb dGH_classOf_0 rfl ?_
  refine lv_istore_n (lv' := [(2, .int (iI 0)), (0, .ref r), (1, .ref b)]) hx hb dGH_classOf_1 rfl hl (by decide) rfl (fun ls hl => ?_)
  refine lv_iconst (v := iI (-1)) hx hb dGH_classOf_2 rfl ?_
  refine lv_istore_n (lv' := [(3, .int (iI (-1))), (2, .int (iI 0)), (0, .ref r), (1, .ref b)]) hx hb dGH_classOf_3 rfl hl (by decide) rfl (fun ls hl => ?_)
  refine lv_iconst (v := iI (0)) hx hb dGH_classOf_4 rfl ?_
  refine lv_istore (lv' := [(4, .int (iI 0)), (3, .int (iI (-1))), (2, .int (iI 0)), (0, .ref r), (1, .ref b)]) hx hb dGH_classOf_5 hl (by decide) rfl (fun ls hl => ?_)
  have lp7 : ∀ (n9 : Nat) (i : Nat) (gl1 : Nat → Int), (i ≤ ks.length) → (ks.length - i) < n9 → ∀ (H : Heap) (locs : List Loc), va_P D vwCl [(r, .inr (5, [.ref a, .int (iI (ks.length : Int))])), (a, .inl (cI, n, .inl (zf f))), (b, .inr (1, [.ref lf, .ref rt])), (lf, .inl (cI, 9, .inl (zf gl1))), (rt, .inl (cI, 9, .inl (zf gr)))] H → va_D A [(r, .inr (5, [.ref a, .int (iI (ks.length : Int))])), (a, .inl (cI, n, .inl (zf f))), (b, .inr (1, [.ref lf, .ref rt])), (lf, .inl (cI, 9, .inl (zf gl1))), (rt, .inl (cI, 9, .inl (zf gr)))] → va_S A s.heap H locs → ∀ (ls : Array Slot), lv_has ls 6 [(0, .ref r), (1, .ref b), (2, .int (iI (rowT ks i))), (3, .int (iI (bef ks i))), (4, .int (iI (i : Int)))] → W p l e (headSpec wGH_classOf rmGH_classOf).room s m args below meth c H locs 0 0 Q (F0 m 7 ls []) := by
    intro n9
    induction n9 with
    | zero => intro i gl1 hi hm; exact absurd hm (Nat.not_lt_zero _)
    | succ n9 ih7 =>
      intro i gl1 hi hm7 H locs hP hD hS ls hl
      have hbf : -1 ≤ bef ks i ∧ bef ks i < 2147483648 := by
        unfold bef
        split
        · omega
        · have := hrg (j := i - 1) (by omega)
          omega
      refine lv_iload hx hb dGH_classOf_7 (lv_at hl 4 rfl) ?_
      refine lv_aload_n hx hb dGH_classOf_9 rfl (lv_at hl 0 rfl) ?_
      refine zRI.back ((va_runV (As := []) (rest := [.int (iI (i : Int))]) ⟨hx, hb, hml, hown, hts⟩ (mRO_size l D cI cG r a (ks.length : Int)) (cwV 0 hts (gT1 lkGH_83 (gT1 imRO_size (gT1 seRO_size (gT1 iniRO (gTW kcRO_size))))) rfl rfl rfl (by decide +kernel) ⟨Nat.le_of_ble_eq_true rfl, Nat.le_of_ble_eq_true rfl⟩) ⟨zRd_blind, va_recv hK hP (ci := 5) (q0 := 0) rfl rfl, zRd.at (wc := [(r, .inr (5, [.ref a, .int (iI (ks.length : Int))]))]) hK (hP.sub (ws' := [(r, .inr (5, [.ref a, .int (iI (ks.length : Int))]))]) [0] rfl) (stF.now hX hS)⟩ rfl rfl hl.1 rfl (lv_room (Nat.le_of_ble_eq_true rfl)) dGH_classOf_10 ⟨Nat.le_of_ble_eq_true rfl, Nat.le_of_ble_eq_true rfl⟩).run) (fun z_10 q_10 => ?_)
      obtain rfl : z_10 = (ks.length : Int) := q_10
      refine lz_icmp_ge (tgt := 59) hx hb dGH_classOf_13 (by decide) (by omega) (by omega) (fun c_13 => ?_) (fun c_13 => ?_)
      · have hin : i = ks.length := by omega
        rw [hin] at hl
        have hl : lv_has ls 6 [(2, .int (iI (rowT ks ks.length)))] := lv_sub hl [2] rfl
        refine lv_iconst (v := iI (0)) hx hb dGH_classOf_59 rfl ?_
        refine lv_istore (lv' := [(4, .int (iI 0)), (2, .int (iI (rowT ks ks.length)))]) hx hb dGH_classOf_60 hl (by decide) rfl (fun ls hl => ?_)
        have lp62 : ∀ (n9 : Nat) (j : Nat), (j ≤ 32) → (∀ t, t < j → st_rows.getD t 0 ≠ rowT ks ks.length) → (32 - j) < n9 → ∀ (H : Heap) (locs : List Loc), va_P D vwCl [(r, .inr (5, [.ref a, .int (iI (ks.length : Int))])), (a, .inl (cI, n, .inl (zf f))), (b, .inr (1, [.ref lf, .ref rt])), (lf, .inl (cI, 9, .inl (zf gl1))), (rt, .inl (cI, 9, .inl (zf gr)))] H → va_D A [(r, .inr (5, [.ref a, .int (iI (ks.length : Int))])), (a, .inl (cI, n, .inl (zf f))), (b, .inr (1, [.ref lf, .ref rt])), (lf, .inl (cI, 9, .inl (zf gl1))), (rt, .inl (cI, 9, .inl (zf gr)))] → va_S A s.heap H locs → ∀ (ls : Array Slot), lv_has ls 6 [(2, .int (iI (rowT ks ks.length))), (4, .int (iI (j : Int)))] → W p l e (headSpec wGH_classOf rmGH_classOf).room s m args below meth c H locs 0 0 Q (F0 m 62 ls []) := by
          intro n9
          induction n9 with
          | zero => intro j hj hall hm; exact absurd hm (Nat.not_lt_zero _)
          | succ n9 ih62 =>
            intro j hj hall hm62 H locs hP hD hS ls hl
            refine lv_iload hx hb dGH_classOf_62 (lv_at hl 1 rfl) ?_
            refine va_gets hx hb hZC hS hown (hts _ (List.mem_cons_of_mem _ lkGH_171)) (fun _ h9 => h9) dGH_classOf_64 ?_
            refine lz_tlen hx hb hTC hS dGH_classOf_67 ?_
            refine lz_icmp_ge (tgt := 92) hx hb dGH_classOf_68 (by decide) (by omega) (by omega) (fun c_68 => ?_) (fun c_68 => ?_)
            · refine lv_iconst (v := iI (-1)) hx hb dGH_classOf_92 rfl ?_
              exact hret H locs 0 0 93 ls (-1) gl1 (Or.inr ⟨rfl, fun t ht => hall t (by omega)⟩) (hP.sub [0, 1, 2, 3, 4] rfl) (hD.sub [0, 1, 2, 3, 4] (by decide) rfl) hS (Nat.zero_le _) (Nat.zero_le _) dGH_classOf_93
            · refine va_gets hx hb hZC hS hown (hts _ (List.mem_cons_of_mem _ lkGH_171)) (fun _ h9 => h9) dGH_classOf_71 ?_
              refine lv_iload hx hb dGH_classOf_74 (lv_at hl 1 rfl) ?_
              refine lz_tab hx hb hTC hS (z := (j : Int)) (by omega) dGH_classOf_76 ?_
              refine lz_as (x := st_rows.getD ((j : Int)).toNat 0) (y := st_rows.getD j 0) (rfl) ?_
              refine lv_iload_n hx hb dGH_classOf_77 rfl (lv_at hl 0 rfl) ?_
              refine lz_icmp_ne (tgt := 86) hx hb dGH_classOf_78 (by decide) (by have := rows_rng j (by omega); omega) (by omega) (fun c_78 => ?_) (fun c_78 => ?_)
              · refine lz_iinc (lv' := [(4, .int (iI ((j : Int) + 1))), (2, .int (iI (rowT ks ks.length)))]) hx hb dGH_classOf_86 hl (k := 1) rfl (by decide) rfl (fun ls hl => ?_)
                refine lv_goto (tgt := 62) hx hb dGH_classOf_89 (by decide) ?_
                exact ih62 (j + 1) (by omega) (fun t ht => by
                    rcases Nat.lt_or_ge t j with q | q
                    · exact hall t q
                    · obtain rfl : t = j := by omega
                      exact c_78) (by omega) _ _ (hP.sub [0, 1, 2, 3, 4] rfl) (hD.sub [0, 1, 2, 3, 4] (by decide) rfl) hS _ (lv_sub hl [1, 0] rfl)
              · refine lv_iload hx hb dGH_classOf_81 (lv_at hl 1 rfl) ?_
                refine lv_iconst (v := iI (1)) hx hb dGH_classOf_83 rfl ?_
                refine lz_iadd hx hb dGH_classOf_84 ?_
                exact hret H locs 0 0 85 ls ((j : Int) + 1) gl1 (Or.inl ⟨j, by omega, c_78, rfl, hall⟩) (hP.sub [0, 1, 2, 3, 4] rfl) (hD.sub [0, 1, 2, 3, 4] (by decide) rfl) hS (Nat.zero_le _) (Nat.zero_le _) dGH_classOf_85
        exact lp62 _ 0 (Nat.zero_le _) (fun t ht => absurd ht (Nat.not_lt_zero _)) (Nat.lt_succ_self _) _ _ (hP.sub [0, 1, 2, 3, 4] rfl) (hD.sub [0, 1, 2, 3, 4] (by decide) rfl) hS _ (lv_sub hl [1, 0] rfl)
      · refine lv_aload_n hx hb dGH_classOf_16 rfl (lv_at hl 0 rfl) ?_
        refine lv_iload hx hb dGH_classOf_17 (lv_at hl 4 rfl) ?_
        refine zRI.back ((va_runV (As := [.int (iI (i : Int))]) (rest := []) ⟨hx, hb, hml, hown, hts⟩ (mRO_at l D cI cG r a n f ks (i : Int) h (by omega)) (cwV 1 hts (gT1 lkGH_115 (gT1 imRO_at (gT1 seRO_at (gT1 iniRO (gTW kcRO_at))))) rfl rfl rfl (by decide +kernel) ⟨Nat.le_of_ble_eq_true rfl, Nat.le_of_ble_eq_true rfl⟩) ⟨zRd_blind, va_recv hK hP (ci := 5) (q0 := 0) rfl rfl, zRd.at (wc := [(r, .inr (5, [.ref a, .int (iI (ks.length : Int))])), (a, .inl (cI, n, .inl (zf f)))]) hK (hP.sub (ws' := [(r, .inr (5, [.ref a, .int (iI (ks.length : Int))])), (a, .inl (cI, n, .inl (zf f)))]) [0, 1] rfl) (stF.now hX hS)⟩ rfl rfl hl.1 rfl (lv_room (Nat.le_of_ble_eq_true rfl)) dGH_classOf_19 ⟨Nat.le_of_ble_eq_true rfl, Nat.le_of_ble_eq_true rfl⟩).run) (fun z_19 q_19 => ?_)
        obtain rfl : z_19 = ks.getD i (-1) := by have q9 : z_19 = lat ks (i : Int) := q_19; rw [q9]; exact (lat_in (by omega) (by omega)).1
        refine lv_sipush (v := iI (13824)) hx hb dGH_classOf_22 (by decide) ?_
        refine lz_idiv hx hb dGH_classOf_25 (by have := hrg (j := i) (by omega); omega) (by omega) ?_
        refine lv_istore (lv' := [(5, .int (iI ((ks.getD i (-1)) / 13824))), (0, .ref r), (1, .ref b), (2, .int (iI (rowT ks i))), (3, .int (iI (bef ks i))), (4, .int (iI (i : Int)))]) hx hb dGH_classOf_26 hl (by decide) rfl (fun ls hl => ?_)
        refine lv_iload hx hb dGH_classOf_28 (lv_at hl 0 rfl) ?_
        refine lv_iload_n hx hb dGH_classOf_30 rfl (lv_at hl 4 rfl) ?_
        refine lz_icmp_eq (tgt := 50) hx hb dGH_classOf_31 (by decide) (by have := hrg (j := i) (by omega); omega) (by omega) (fun c_31 => ?_) (fun c_31 => ?_)
        · refine lv_iload hx hb dGH_classOf_50 (lv_at hl 0 rfl) ?_
          refine lv_istore_n (lv' := [(3, .int (iI ((ks.getD i (-1)) / 13824))), (5, .int (iI ((ks.getD i (-1)) / 13824))), (0, .ref r), (1, .ref b), (2, .int (iI (rowT ks i))), (4, .int (iI (i : Int)))]) hx hb dGH_classOf_52 rfl hl (by decide) rfl (fun ls hl => ?_)
          refine lz_iinc (lv' := [(4, .int (iI ((i : Int) + 1))), (3, .int (iI ((ks.getD i (-1)) / 13824))), (5, .int (iI ((ks.getD i (-1)) / 13824))), (0, .ref r), (1, .ref b), (2, .int (iI (rowT ks i)))]) hx hb dGH_classOf_53 hl (k := 5) rfl (by decide) rfl (fun ls hl => ?_)
          refine lv_goto (tgt := 7) hx hb dGH_classOf_56 (by decide) ?_
          rw [show (ks.getD i (-1)) / 13824 = bef ks (i + 1) from (bef_s ks i).symm] at hl
          rw [show rowT ks i = rowT ks (i + 1) from by show rowT ks i = rowT ks i + _; rw [if_pos c_31]; omega] at hl
          exact ih7 (i + 1) gl1 (by omega) (by omega) _ _ (hP.sub [0, 1, 2, 3, 4] rfl) (hD.sub [0, 1, 2, 3, 4] (by decide) rfl) hS _ (lv_sub hl [3, 4, 5, 1, 0] rfl)
        · refine lv_iload_n hx hb dGH_classOf_34 rfl (lv_at hl 3 rfl) ?_
          refine lv_aload_n hx hb dGH_classOf_35 rfl (lv_at hl 2 rfl) ?_
          refine lv_aload_n hx hb dGH_classOf_36 rfl (lv_at hl 1 rfl) ?_
          refine lv_iload hx hb dGH_classOf_37 (lv_at hl 5 rfl) ?_
          refine zRI.back ((va_runV (As := [.int (iI (i : Int))]) (rest := [.ref b, .int (iI (rowT ks i))]) ⟨hx, hb, hml, hown, hts⟩ (mRO_at l D cI cG r a n f ks (i : Int) h (by omega)) (cwV 1 hts (gT1 lkGH_115 (gT1 imRO_at (gT1 seRO_at (gT1 iniRO (gTW kcRO_at))))) rfl rfl rfl (by decide +kernel) ⟨Nat.le_of_ble_eq_true rfl, Nat.le_of_ble_eq_true rfl⟩) ⟨zRd_blind, va_recv hK hP (ci := 5) (q0 := 0) rfl rfl, zRd.at (wc := [(r, .inr (5, [.ref a, .int (iI (ks.length : Int))])), (a, .inl (cI, n, .inl (zf f)))]) hK (hP.sub (ws' := [(r, .inr (5, [.ref a, .int (iI (ks.length : Int))])), (a, .inl (cI, n, .inl (zf f)))]) [0, 1] rfl) (stF.now hX hS)⟩ rfl rfl hl.1 rfl (lv_room (Nat.le_of_ble_eq_true rfl)) dGH_classOf_39 ⟨Nat.le_of_ble_eq_true rfl, Nat.le_of_ble_eq_true rfl⟩).run) (fun z_39 q_39 => ?_)
          obtain rfl : z_39 = ks.getD i (-1) := by have q9 : z_39 = lat ks (i : Int) := q_39; rw [q9]; exact (lat_in (by omega) (by omega)).1
          refine zI.back (va_runV (As := [.int (iI (ks.getD i (-1)))]) (rest := [.int (iI (rowT ks i))]) ⟨hx, hb, hml, hown, hts⟩ ((mBE_sort l D cI cG b lf rt gl1 gr (ks.getD i (-1)) (by have := hrg (j := i) (by omega); omega)) H.size) (cwV 1 hts (gT1 lkGH_118 (gT1 imBE_sort (gT1 seBE_sort (gT1 iniBE (gTW kcBE_sort))))) rfl rfl rfl (by decide +kernel) ⟨Nat.le_of_ble_eq_true rfl, Nat.le_of_ble_eq_true rfl⟩) ⟨zPre_blind, va_recv hK hP (ci := 1) (q0 := 2) rfl rfl, zPre.at (wc := [(b, .inr (1, [.ref lf, .ref rt])), (lf, .inl (cI, 9, .inl (zf gl1))), (rt, .inl (cI, 9, .inl (zf gr)))]) hK hP hD hS hA hX [2, 3, 4] (by decide) rfl⟩ rfl rfl hl.1 rfl (lv_room (Nat.le_of_ble_eq_true rfl)) dGH_classOf_42 ⟨Nat.le_of_ble_eq_true rfl, Nat.le_of_ble_eq_true rfl⟩) (wr := [(r, .inr (5, [.ref a, .int (iI (ks.length : Int))])), (a, .inl (cI, n, .inl (zf f)))]) hP hD hS hA [2, 3, 4] [0, 1] rfl rfl (by decide) (by decide) (fun z_42 u_42 H locs q_42 hP hD hS hz_42 hk_42 => ?_)
          obtain rfl : z_42 = sortK (ks.getD i (-1)) := q_42
          have hP : va_P D vwCl [(r, .inr (5, [.ref a, .int (iI (ks.length : Int))])), (a, .inl (cI, n, .inl (zf f))), (b, .inr (1, [.ref lf, .ref rt])), (lf, .inl (cI, 9, .inl (zf (rd (ks.getD i (-1)) gl1)))), (rt, .inl (cI, 9, .inl (zf gr)))] H := hP
          have hD : va_D A [(r, .inr (5, [.ref a, .int (iI (ks.length : Int))])), (a, .inl (cI, n, .inl (zf f))), (b, .inr (1, [.ref lf, .ref rt])), (lf, .inl (cI, 9, .inl (zf (rd (ks.getD i (-1)) gl1)))), (rt, .inl (cI, 9, .inl (zf gr)))] := hD
          refine zRI.back ((va_runS (As := [.int (iI (sortK (ks.getD i (-1))))]) (rest := [.int (iI (rowT ks i))]) ⟨hx, hb, hml, hown, hts⟩ (mGH_digitOf l D cI cG (sortK (ks.getD i (-1))) (sort_rng _)) (va_cwS 1 hts (gT1 lkGH_168 (gT1 smGH_digitOf (gT1 iniGH (gTW kcGH_digitOf)))) rfl rfl rfl (by decide +kernel) ⟨Nat.le_of_ble_eq_true rfl, Nat.le_of_ble_eq_true rfl⟩) ⟨zRd_blind, zRd.at (wc := []) hK (hP.sub (ws' := []) [] rfl) (stF.now hX hS)⟩ rfl rfl hl.1 rfl (lv_room (Nat.le_of_ble_eq_true rfl)) dGH_classOf_45 ⟨Nat.le_of_ble_eq_true rfl, Nat.le_of_ble_eq_true rfl⟩).run) (fun z_45 q_45 => ?_)
          obtain rfl : z_45 = digK (sortK (ks.getD i (-1))) := q_45
          refine lz_iadd hx hb dGH_classOf_48 ?_
          refine lv_istore_n (lv' := [(2, .int (iI ((rowT ks i) + (digK (sortK (ks.getD i (-1))))))), (5, .int (iI ((ks.getD i (-1)) / 13824))), (0, .ref r), (1, .ref b), (3, .int (iI (bef ks i))), (4, .int (iI (i : Int)))]) hx hb dGH_classOf_49 rfl hl (by decide) rfl (fun ls hl => ?_)
          refine lv_iload hx hb dGH_classOf_50 (lv_at hl 1 rfl) ?_
          refine lv_istore_n (lv' := [(3, .int (iI ((ks.getD i (-1)) / 13824))), (2, .int (iI ((rowT ks i) + (digK (sortK (ks.getD i (-1))))))), (5, .int (iI ((ks.getD i (-1)) / 13824))), (0, .ref r), (1, .ref b), (4, .int (iI (i : Int)))]) hx hb dGH_classOf_52 rfl hl (by decide) rfl (fun ls hl => ?_)
          refine lz_iinc (lv' := [(4, .int (iI ((i : Int) + 1))), (3, .int (iI ((ks.getD i (-1)) / 13824))), (2, .int (iI ((rowT ks i) + (digK (sortK (ks.getD i (-1))))))), (5, .int (iI ((ks.getD i (-1)) / 13824))), (0, .ref r), (1, .ref b)]) hx hb dGH_classOf_53 hl (k := 5) rfl (by decide) rfl (fun ls hl => ?_)
          refine lv_goto (tgt := 7) hx hb dGH_classOf_56 (by decide) ?_
          rw [show (ks.getD i (-1)) / 13824 = bef ks (i + 1) from (bef_s ks i).symm] at hl
          rw [show (rowT ks i) + (digK (sortK (ks.getD i (-1)))) = rowT ks (i + 1) from by show _ = rowT ks i + _; rw [if_neg c_31]] at hl
          exact ih7 (i + 1) (rd (ks.getD i (-1)) gl1) (by omega) (by omega) _ _ (hP.sub [0, 1, 2, 3, 4] rfl) (hD.sub [0, 1, 2, 3, 4] (by decide) rfl) hS _ (lv_sub hl [4, 5, 2, 1, 0] rfl)
  exact lp7 _ 0 gl (Nat.zero_le _) (Nat.lt_succ_self _) _ _ (hP.sub [0, 1, 2, 3, 4] rfl) (hD.sub [0, 1, 2, 3, 4] (by decide) rfl) hS _ (lv_sub hl [3, 4, 2, 1, 0] rfl)

def rmGR_letterOfTwo : Room := { frames := 0, cells := 0, slots := 0, locals := 0 }
set_option maxHeartbeats 4000000 in
set_option maxRecDepth 100000 in
theorem mGR_letterOfTwo (l : Launch) (D : va_G) (cI cG : ClassId) (x : Int) (hx1 : -2147483648 ≤ x ∧ x < 2147483648) : zRI l yGR_letterOfTwo wGR_letterOfTwo rmGR_letterOfTwo D vwCl (zT cI cG) [.int (iI x)] [] (fun z => z = let2 x) := by
  refine zRI.of (cc := cGR_letterOfTwo) (maxL := 1) (rt := .int) (by decide) rfl (Nat.le_of_ble_eq_true rfl) (fun _ _ => rfl) ?_
  intro p e s m args below meth c ls Q hx hb hml hown hts hK hP hX hl hret
  have hS0 : va_S (fun _ => False) s.heap s.heap [] := va_S.rf
  have hl : lv_has ls 1 [(0, .int (iI x))] := hl
  refine lv_iload_n hx hb dGR_letterOfTwo_0 rfl (lv_at hl 0 rfl) ?_
  rcases (show x = 300 ∨ x = 6924 ∨ x = 7200 ∨ x = 7212 ∨ (x ≠ 300 ∧ x ≠ 6924 ∧ x ≠ 7200 ∧ x ≠ 7212) from by omega) with c_1 | c_1 | c_1 | c_1 | c_1
  · refine lv_lookup (tgt := 44) (off := 43) hx hb dGR_letterOfTwo_1 (by decide) (by rw [iI_toInt (by omega), c_1]; rfl) (by decide) ?_
    refine lv_iconst (v := iI (1)) hx hb dGR_letterOfTwo_44 rfl ?_
    exact hret 45 ls 1 (by unfold let2; (repeat rw [if_neg (by omega)]) <;> first | rfl | rw [if_pos c_1]) dGR_letterOfTwo_45
  · refine lv_lookup (tgt := 46) (off := 45) hx hb dGR_letterOfTwo_1 (by decide) (by rw [iI_toInt (by omega), c_1]; rfl) (by decide) ?_
    refine lv_iconst (v := iI (2)) hx hb dGR_letterOfTwo_46 rfl ?_
    exact hret 47 ls 2 (by unfold let2; (repeat rw [if_neg (by omega)]) <;> first | rfl | rw [if_pos c_1]) dGR_letterOfTwo_47
  · refine lv_lookup (tgt := 48) (off := 47) hx hb dGR_letterOfTwo_1 (by decide) (by rw [iI_toInt (by omega), c_1]; rfl) (by decide) ?_
    refine lv_iconst (v := iI (3)) hx hb dGR_letterOfTwo_48 rfl ?_
    exact hret 49 ls 3 (by unfold let2; (repeat rw [if_neg (by omega)]) <;> first | rfl | rw [if_pos c_1]) dGR_letterOfTwo_49
  · refine lv_lookup (tgt := 50) (off := 49) hx hb dGR_letterOfTwo_1 (by decide) (by rw [iI_toInt (by omega), c_1]; rfl) (by decide) ?_
    refine lv_iconst (v := iI (4)) hx hb dGR_letterOfTwo_50 rfl ?_
    exact hret 51 ls 4 (by unfold let2; (repeat rw [if_neg (by omega)]) <;> first | rfl | rw [if_pos c_1]) dGR_letterOfTwo_51
  · refine lv_lookup (tgt := 52) (off := 51) hx hb dGR_letterOfTwo_1 (by decide) (by rw [iI_toInt (by omega)]; simp [Op.lookupswitch.offset, c_1]; omega) (by decide) ?_
    refine lv_bipush (v := iI (8)) hx hb dGR_letterOfTwo_52 (by decide) ?_
    exact hret 54 ls 8 (by unfold let2; (repeat rw [if_neg (by omega)]) <;> first | rfl | rw [if_pos c_1]) dGR_letterOfTwo_54

def rmGR_letterOf : Room := { frames := 2, cells := 0, slots := 0, locals := 47 }
set_option maxHeartbeats 4000000 in
set_option maxRecDepth 100000 in
theorem mGR_letterOf (l : Launch) (D : va_G) (cI cG : ClassId) (r a n : Nat) (f : Nat → Int) (ks : List Int) (c9 : Int) (h : rowOK n f ks) (hc9 : -2147483648 ≤ c9 ∧ c9 < 2147483648) : zRI l yGR_letterOf wGR_letterOf rmGR_letterOf D vwCl (zT cI cG) [.ref r, .int (iI c9)] [(r, .inr (5, [.ref a, .int (iI (ks.length : Int))])), (a, .inl (cI, n, .inl (zf f)))] (fun z => ∃ i, lix ks u0 i ∧ z = letK ks i c9) := by
  refine zRI.of (cc := cGR_letterOf) (maxL := 6) (rt := .int) (by decide) rfl (Nat.le_of_ble_eq_true rfl) (fun _ _ => rfl) ?_
  intro p e s m args below meth c ls Q hx hb hml hown hts hK hP hX hl hret
  have hS0 : va_S (fun _ => False) s.heap s.heap [] := va_S.rf
  have hl : lv_has ls 6 [(0, .ref r), (1, .int (iI c9))] := hl
  have hb1 := h.1
  have hb2 := h.2.1
  refine lv_aload_n hx hb dGR_letterOf_0 rfl (lv_at hl 0 rfl) ?_
  refine lz_ldc (z := 227874816) hx hb hown (hts _ (List.mem_cons_of_mem _ lkGR_69)) (by decide) dGR_letterOf_1 ?_
  refine zRI.back ((va_runV (As := [.int (iI 227874816)]) (rest := []) ⟨hx, hb, hml, hown, hts⟩ (mRO_indexOf l D cI cG r a n f ks 227874816 h (by omega)) (cwV 1 hts (gT1 lkGR_70 (gT1 imRO_indexOf (gT1 seRO_indexOf (gT1 iniRO (gTW kcRO_indexOf))))) rfl rfl rfl (by decide +kernel) ⟨Nat.le_of_ble_eq_true rfl, Nat.le_of_ble_eq_true rfl⟩) ⟨zRd_blind, va_recv hK hP (ci := 5) (q0 := 0) rfl rfl, zRd.at (wc := [(r, .inr (5, [.ref a, .int (iI (ks.length : Int))])), (a, .inl (cI, n, .inl (zf f)))]) hK (hP.sub (ws' := [(r, .inr (5, [.ref a, .int (iI (ks.length : Int))])), (a, .inl (cI, n, .inl (zf f)))]) [0, 1] rfl) hX⟩ rfl rfl hl.1 rfl (lv_room (Nat.le_of_ble_eq_true rfl)) dGR_letterOf_3 ⟨Nat.le_of_ble_eq_true rfl, Nat.le_of_ble_eq_true rfl⟩).run) (fun z_3 q_3 => ?_)
  have q_3 : lix ks u0 z_3 := q_3
  have hz3 : -1 ≤ z_3 ∧ z_3 ≤ 1000 := by rcases q_3 with ⟨_, _, _, _⟩ | ⟨_, _⟩ <;> omega
  have ha1 := lat_bd h (z_3 + 1)
  have ha2 := lat_bd h (z_3 + 2)
  have ha3 := lat_bd h (z_3 + 3)
  refine lv_istore_n (lv' := [(2, .int (iI z_3)), (0, .ref r), (1, .int (iI c9))]) hx hb dGR_letterOf_6 rfl hl (by decide) rfl (fun ls hl => ?_)
  refine lv_aload_n hx hb dGR_letterOf_7 rfl (lv_at hl 1 rfl) ?_
  refine lv_iload_n hx hb dGR_letterOf_8 rfl (lv_at hl 0 rfl) ?_
  refine lv_iconst (v := iI (1)) hx hb dGR_letterOf_9 rfl ?_
  refine lz_iadd hx hb dGR_letterOf_10 ?_
  refine zRI.back ((va_runV (As := [.int (iI (z_3 + 1))]) (rest := []) ⟨hx, hb, hml, hown, hts⟩ (mRO_at l D cI cG r a n f ks (z_3 + 1) h (by omega)) (cwV 1 hts (gT1 lkGR_32 (gT1 imRO_at (gT1 seRO_at (gT1 iniRO (gTW kcRO_at))))) rfl rfl rfl (by decide +kernel) ⟨Nat.le_of_ble_eq_true rfl, Nat.le_of_ble_eq_true rfl⟩) ⟨zRd_blind, va_recv hK hP (ci := 5) (q0 := 0) rfl rfl, zRd.at (wc := [(r, .inr (5, [.ref a, .int (iI (ks.length : Int))])), (a, .inl (cI, n, .inl (zf f)))]) hK (hP.sub (ws' := [(r, .inr (5, [.ref a, .int (iI (ks.length : Int))])), (a, .inl (cI, n, .inl (zf f)))]) [0, 1] rfl) hX⟩ rfl rfl hl.1 rfl (lv_room (Nat.le_of_ble_eq_true rfl)) dGR_letterOf_11 ⟨Nat.le_of_ble_eq_true rfl, Nat.le_of_ble_eq_true rfl⟩).run) (fun z_11 q_11 => ?_)
  obtain rfl : z_11 = lat ks (z_3 + 1) := q_11
  refine lz_ldc (z := 227874816) hx hb hown (hts _ (List.mem_cons_of_mem _ lkGR_69)) (by decide) dGR_letterOf_14 ?_
  refine lz_isub hx hb dGR_letterOf_16 ?_
  refine lv_istore_n (lv' := [(3, .int (iI ((lat ks (z_3 + 1)) - 227874816))), (2, .int (iI z_3)), (0, .ref r), (1, .int (iI c9))]) hx hb dGR_letterOf_17 rfl hl (by decide) rfl (fun ls hl => ?_)
  refine lv_aload_n hx hb dGR_letterOf_18 rfl (lv_at hl 2 rfl) ?_
  refine lv_iload_n hx hb dGR_letterOf_19 rfl (lv_at hl 1 rfl) ?_
  refine lv_iconst (v := iI (2)) hx hb dGR_letterOf_20 rfl ?_
  refine lz_iadd hx hb dGR_letterOf_21 ?_
  refine zRI.back ((va_runV (As := [.int (iI (z_3 + 2))]) (rest := []) ⟨hx, hb, hml, hown, hts⟩ (mRO_at l D cI cG r a n f ks (z_3 + 2) h (by omega)) (cwV 1 hts (gT1 lkGR_32 (gT1 imRO_at (gT1 seRO_at (gT1 iniRO (gTW kcRO_at))))) rfl rfl rfl (by decide +kernel) ⟨Nat.le_of_ble_eq_true rfl, Nat.le_of_ble_eq_true rfl⟩) ⟨zRd_blind, va_recv hK hP (ci := 5) (q0 := 0) rfl rfl, zRd.at (wc := [(r, .inr (5, [.ref a, .int (iI (ks.length : Int))])), (a, .inl (cI, n, .inl (zf f)))]) hK (hP.sub (ws' := [(r, .inr (5, [.ref a, .int (iI (ks.length : Int))])), (a, .inl (cI, n, .inl (zf f)))]) [0, 1] rfl) hX⟩ rfl rfl hl.1 rfl (lv_room (Nat.le_of_ble_eq_true rfl)) dGR_letterOf_22 ⟨Nat.le_of_ble_eq_true rfl, Nat.le_of_ble_eq_true rfl⟩).run) (fun z_22 q_22 => ?_)
  obtain rfl : z_22 = lat ks (z_3 + 2) := q_22
  refine lz_ldc (z := 227874816) hx hb hown (hts _ (List.mem_cons_of_mem _ lkGR_69)) (by decide) dGR_letterOf_25 ?_
  refine lz_isub hx hb dGR_letterOf_27 ?_
  refine lv_istore (lv' := [(4, .int (iI ((lat ks (z_3 + 2)) - 227874816))), (3, .int (iI ((lat ks (z_3 + 1)) - 227874816))), (2, .int (iI z_3)), (0, .ref r), (1, .int (iI c9))]) hx hb dGR_letterOf_28 hl (by decide) rfl (fun ls hl => ?_)
  refine lv_aload_n hx hb dGR_letterOf_30 rfl (lv_at hl 3 rfl) ?_
  refine lv_iload_n hx hb dGR_letterOf_31 rfl (lv_at hl 2 rfl) ?_
  refine lv_iconst (v := iI (3)) hx hb dGR_letterOf_32 rfl ?_
  refine lz_iadd hx hb dGR_letterOf_33 ?_
  refine zRI.back ((va_runV (As := [.int (iI (z_3 + 3))]) (rest := []) ⟨hx, hb, hml, hown, hts⟩ (mRO_at l D cI cG r a n f ks (z_3 + 3) h (by omega)) (cwV 1 hts (gT1 lkGR_32 (gT1 imRO_at (gT1 seRO_at (gT1 iniRO (gTW kcRO_at))))) rfl rfl rfl (by decide +kernel) ⟨Nat.le_of_ble_eq_true rfl, Nat.le_of_ble_eq_true rfl⟩) ⟨zRd_blind, va_recv hK hP (ci := 5) (q0 := 0) rfl rfl, zRd.at (wc := [(r, .inr (5, [.ref a, .int (iI (ks.length : Int))])), (a, .inl (cI, n, .inl (zf f)))]) hK (hP.sub (ws' := [(r, .inr (5, [.ref a, .int (iI (ks.length : Int))])), (a, .inl (cI, n, .inl (zf f)))]) [0, 1] rfl) hX⟩ rfl rfl hl.1 rfl (lv_room (Nat.le_of_ble_eq_true rfl)) dGR_letterOf_34 ⟨Nat.le_of_ble_eq_true rfl, Nat.le_of_ble_eq_true rfl⟩).run) (fun z_34 q_34 => ?_)
  obtain rfl : z_34 = lat ks (z_3 + 3) := q_34
  refine lz_ldc (z := 227874816) hx hb hown (hts _ (List.mem_cons_of_mem _ lkGR_69)) (by decide) dGR_letterOf_37 ?_
  refine lz_isub hx hb dGR_letterOf_39 ?_
  refine lv_istore (lv' := [(5, .int (iI ((lat ks (z_3 + 3)) - 227874816))), (4, .int (iI ((lat ks (z_3 + 2)) - 227874816))), (3, .int (iI ((lat ks (z_3 + 1)) - 227874816))), (2, .int (iI z_3)), (0, .ref r), (1, .int (iI c9))]) hx hb dGR_letterOf_40 hl (by decide) rfl (fun ls hl => ?_)
  refine lv_iload_n hx hb dGR_letterOf_42 rfl (lv_at hl 5 rfl) ?_
  rcases (show c9 = 1 ∨ c9 = 2 ∨ c9 = 3 ∨ c9 = 4 ∨ (c9 < 1 ∨ 4 < c9) from by omega) with c_43 | c_43 | c_43 | c_43 | c_43
  · refine lv_tableIn (tgt := 72) hx hb dGR_letterOf_43 (by rw [iI_toInt (by omega)]; omega) (by rw [iI_toInt (by omega)]; omega) (by rw [iI_toInt (by omega), c_43]; rfl) (by decide) ?_
    refine lv_iconst (v := iI (0)) hx hb dGR_letterOf_72 rfl ?_
    exact hret 73 ls 0 ⟨z_3, q_3, by
          unfold letK u0
          rw [if_pos c_43]⟩ dGR_letterOf_73
  · refine lv_tableIn (tgt := 74) hx hb dGR_letterOf_43 (by rw [iI_toInt (by omega)]; omega) (by rw [iI_toInt (by omega)]; omega) (by rw [iI_toInt (by omega), c_43]; rfl) (by decide) ?_
    refine lv_iload_n hx hb dGR_letterOf_74 rfl (lv_at hl 2 rfl) ?_
    refine zRI.back ((va_runS (As := [.int (iI ((lat ks (z_3 + 1)) - 227874816))]) (rest := []) ⟨hx, hb, hml, hown, hts⟩ (mGR_letterOfTwo l D cI cG (lat ks (z_3 + 1) - 227874816) ha1) (va_cwS 1 hts (gT1 lkGR_73 (gT1 smGR_letterOfTwo (gT1 iniGR (gTW kcGR_letterOfTwo)))) rfl rfl rfl (by decide +kernel) ⟨Nat.le_of_ble_eq_true rfl, Nat.le_of_ble_eq_true rfl⟩) ⟨zRd_blind, zRd.at (wc := []) hK (hP.sub (ws' := []) [] rfl) hX⟩ rfl rfl hl.1 rfl (lv_room (Nat.le_of_ble_eq_true rfl)) dGR_letterOf_75 ⟨Nat.le_of_ble_eq_true rfl, Nat.le_of_ble_eq_true rfl⟩).run) (fun z_75 q_75 => ?_)
    obtain rfl : z_75 = let2 (lat ks (z_3 + 1) - 227874816) := q_75
    exact hret 78 ls (let2 (lat ks (z_3 + 1) - 227874816)) ⟨z_3, q_3, by
          unfold letK u0
          rw [if_neg (by omega), if_pos c_43]⟩ dGR_letterOf_78
  · refine lv_tableIn (tgt := 79) hx hb dGR_letterOf_43 (by rw [iI_toInt (by omega)]; omega) (by rw [iI_toInt (by omega)]; omega) (by rw [iI_toInt (by omega), c_43]; rfl) (by decide) ?_
    refine lv_iload_n hx hb dGR_letterOf_79 rfl (lv_at hl 2 rfl) ?_
    refine lv_sipush (v := iI (5008)) hx hb dGR_letterOf_80 (by decide) ?_
    refine lz_icmp_ne (tgt := 97) hx hb dGR_letterOf_83 (by decide) (by omega) (by omega) (fun c_83 => ?_) (fun c_83 => ?_)
    · refine lv_iload_n hx hb dGR_letterOf_97 rfl (lv_at hl 2 rfl) ?_
      refine lv_sipush (v := iI (5000)) hx hb dGR_letterOf_98 (by decide) ?_
      refine lz_icmp_ne (tgt := 117) hx hb dGR_letterOf_101 (by decide) (by omega) (by omega) (fun c_101 => ?_) (fun c_101 => ?_)
      · refine lv_bipush (v := iI (8)) hx hb dGR_letterOf_117 (by decide) ?_
        exact hret 119 ls 8 ⟨z_3, q_3, by
              unfold letK u0
              rw [if_neg (by omega), if_neg (by omega), if_pos c_43, if_neg (by omega)]
              first | (exfalso; omega) | rw [if_pos (by omega)] | rw [if_neg (by omega)]⟩ dGR_letterOf_119
      · refine lv_iload hx hb dGR_letterOf_104 (lv_at hl 1 rfl) ?_
        refine lv_sipush (v := iI (9424)) hx hb dGR_letterOf_106 (by decide) ?_
        refine lz_icmp_ne (tgt := 117) hx hb dGR_letterOf_109 (by decide) (by omega) (by omega) (fun c_109 => ?_) (fun c_109 => ?_)
        · refine lv_bipush (v := iI (8)) hx hb dGR_letterOf_117 (by decide) ?_
          exact hret 119 ls 8 ⟨z_3, q_3, by
                unfold letK u0
                rw [if_neg (by omega), if_neg (by omega), if_pos c_43, if_neg (by omega)]
                first | (exfalso; omega) | rw [if_pos (by omega)] | rw [if_neg (by omega)]⟩ dGR_letterOf_119
        · refine lv_bipush (v := iI (7)) hx hb dGR_letterOf_112 (by decide) ?_
          refine lv_goto (tgt := 119) hx hb dGR_letterOf_114 (by decide) ?_
          exact hret 119 ls 7 ⟨z_3, q_3, by
                unfold letK u0
                rw [if_neg (by omega), if_neg (by omega), if_pos c_43, if_neg (by omega)]
                first | (exfalso; omega) | rw [if_pos (by omega)] | rw [if_neg (by omega)]⟩ dGR_letterOf_119
    · refine lv_iload hx hb dGR_letterOf_86 (lv_at hl 1 rfl) ?_
      refine lv_sipush (v := iI (9416)) hx hb dGR_letterOf_88 (by decide) ?_
      refine lz_icmp_ne (tgt := 97) hx hb dGR_letterOf_91 (by decide) (by omega) (by omega) (fun c_91 => ?_) (fun c_91 => ?_)
      · refine lv_iload_n hx hb dGR_letterOf_97 rfl (lv_at hl 2 rfl) ?_
        refine lv_sipush (v := iI (5000)) hx hb dGR_letterOf_98 (by decide) ?_
        refine lz_icmp_ne (tgt := 117) hx hb dGR_letterOf_101 (by decide) (by omega) (by omega) (fun c_101 => ?_) (fun c_101 => ?_)
        · refine lv_bipush (v := iI (8)) hx hb dGR_letterOf_117 (by decide) ?_
          exact hret 119 ls 8 ⟨z_3, q_3, by
                unfold letK u0
                rw [if_neg (by omega), if_neg (by omega), if_pos c_43, if_neg (by omega)]
                first | (exfalso; omega) | rw [if_pos (by omega)] | rw [if_neg (by omega)]⟩ dGR_letterOf_119
        · refine lv_iload hx hb dGR_letterOf_104 (lv_at hl 1 rfl) ?_
          refine lv_sipush (v := iI (9424)) hx hb dGR_letterOf_106 (by decide) ?_
          refine lz_icmp_ne (tgt := 117) hx hb dGR_letterOf_109 (by decide) (by omega) (by omega) (fun c_109 => ?_) (fun c_109 => ?_)
          · refine lv_bipush (v := iI (8)) hx hb dGR_letterOf_117 (by decide) ?_
            exact hret 119 ls 8 ⟨z_3, q_3, by
                  unfold letK u0
                  rw [if_neg (by omega), if_neg (by omega), if_pos c_43, if_neg (by omega)]
                  first | (exfalso; omega) | rw [if_pos (by omega)] | rw [if_neg (by omega)]⟩ dGR_letterOf_119
          · refine lv_bipush (v := iI (7)) hx hb dGR_letterOf_112 (by decide) ?_
            refine lv_goto (tgt := 119) hx hb dGR_letterOf_114 (by decide) ?_
            exact hret 119 ls 7 ⟨z_3, q_3, by
                  unfold letK u0
                  rw [if_neg (by omega), if_neg (by omega), if_pos c_43, if_neg (by omega)]
                  first | (exfalso; omega) | rw [if_pos (by omega)] | rw [if_neg (by omega)]⟩ dGR_letterOf_119
      · refine lv_bipush (v := iI (6)) hx hb dGR_letterOf_94 (by decide) ?_
        exact hret 96 ls 6 ⟨z_3, q_3, by
              unfold letK u0
              rw [if_neg (by omega), if_neg (by omega), if_pos c_43, if_pos (by omega)]⟩ dGR_letterOf_96
  · refine lv_tableIn (tgt := 120) hx hb dGR_letterOf_43 (by rw [iI_toInt (by omega)]; omega) (by rw [iI_toInt (by omega)]; omega) (by rw [iI_toInt (by omega), c_43]; rfl) (by decide) ?_
    refine lv_iload_n hx hb dGR_letterOf_120 rfl (lv_at hl 2 rfl) ?_
    refine lv_sipush (v := iI (300)) hx hb dGR_letterOf_121 (by decide) ?_
    refine lz_icmp_ne (tgt := 147) hx hb dGR_letterOf_124 (by decide) (by omega) (by omega) (fun c_124 => ?_) (fun c_124 => ?_)
    · refine lv_bipush (v := iI (8)) hx hb dGR_letterOf_147 (by decide) ?_
      exact hret 149 ls 8 ⟨z_3, q_3, by
            unfold letK u0
            rw [if_neg (by omega), if_neg (by omega), if_neg (by omega), if_pos c_43]
            first | (exfalso; omega) | rw [if_pos (by omega)] | rw [if_neg (by omega)]⟩ dGR_letterOf_149
    · refine lv_iload hx hb dGR_letterOf_127 (lv_at hl 1 rfl) ?_
      refine lv_sipush (v := iI (6924)) hx hb dGR_letterOf_129 (by decide) ?_
      refine lz_icmp_ne (tgt := 147) hx hb dGR_letterOf_132 (by decide) (by omega) (by omega) (fun c_132 => ?_) (fun c_132 => ?_)
      · refine lv_bipush (v := iI (8)) hx hb dGR_letterOf_147 (by decide) ?_
        exact hret 149 ls 8 ⟨z_3, q_3, by
              unfold letK u0
              rw [if_neg (by omega), if_neg (by omega), if_neg (by omega), if_pos c_43]
              first | (exfalso; omega) | rw [if_pos (by omega)] | rw [if_neg (by omega)]⟩ dGR_letterOf_149
      · refine lv_iload hx hb dGR_letterOf_135 (lv_at hl 0 rfl) ?_
        refine lv_sipush (v := iI (7200)) hx hb dGR_letterOf_137 (by decide) ?_
        refine lz_icmp_ne (tgt := 147) hx hb dGR_letterOf_140 (by decide) (by omega) (by omega) (fun c_140 => ?_) (fun c_140 => ?_)
        · refine lv_bipush (v := iI (8)) hx hb dGR_letterOf_147 (by decide) ?_
          exact hret 149 ls 8 ⟨z_3, q_3, by
                unfold letK u0
                rw [if_neg (by omega), if_neg (by omega), if_neg (by omega), if_pos c_43]
                first | (exfalso; omega) | rw [if_pos (by omega)] | rw [if_neg (by omega)]⟩ dGR_letterOf_149
        · refine lv_iconst (v := iI (5)) hx hb dGR_letterOf_143 rfl ?_
          refine lv_goto (tgt := 149) hx hb dGR_letterOf_144 (by decide) ?_
          exact hret 149 ls 5 ⟨z_3, q_3, by
                unfold letK u0
                rw [if_neg (by omega), if_neg (by omega), if_neg (by omega), if_pos c_43]
                first | (exfalso; omega) | rw [if_pos (by omega)] | rw [if_neg (by omega)]⟩ dGR_letterOf_149
  · refine lv_tableOut (tgt := 150) hx hb dGR_letterOf_43 (by rw [iI_toInt (by omega)]; omega) (by decide) ?_
    refine lv_bipush (v := iI (8)) hx hb dGR_letterOf_150 (by decide) ?_
    exact hret 152 ls 8 ⟨z_3, q_3, by
          unfold letK u0
          rw [if_neg (by omega), if_neg (by omega), if_neg (by omega), if_neg (by omega)]⟩ dGR_letterOf_152
