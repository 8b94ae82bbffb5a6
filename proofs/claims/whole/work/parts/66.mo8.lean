/-! GroupHallsModel: isGreater, comesAhead, keepHalf: written by wip/whole -/
def rmMO_isGreater : Room := { frames := 0, cells := 0, slots := 0, locals := 0 }
set_option maxHeartbeats 4000000 in
set_option maxRecDepth 100000 in
theorem mMO_isGreater (l : Launch) (D : va_G) (cI cJ cZ : ClassId) (x y : Int64)  : zRI l yMO_isGreater wMO_isGreater rmMO_isGreater D vwCl (zM cI cJ cZ) [.long x, .long y] [] (fun z => (z = 1 ∧ uG x y) ∨ (z = 0 ∧ ¬ uG x y)) := by
  refine zRI.of (cc := cMO_isGreater) (maxL := 4) (rt := .boolean) (by decide) rfl (Nat.le_of_ble_eq_true rfl) (fun z h => by rcases h with ⟨rfl, _⟩ | ⟨rfl, _⟩ <;> decide) ?_
  intro p e s m args below meth c ls Q hx hb hml hown hts hK hP hX hl hret
  have hS0 : va_S (fun _ => False) s.heap s.heap [] := va_S.rf
  have hl : lv_has ls 4 [(0, .long x), (2, .long y)] := hl
  have hxa := (ug_facts x y).1
  have hxb := (ug_facts x y).2.2.2.2
  have hya := (ug_facts y x).1
  have hyb := (ug_facts y x).2.2.2.2
  have hxi := i64_int x
  have hyi := i64_int y
  refine lv_lload_n hx hb dMO_isGreater_0 rfl (lv_at hl 0 rfl) ?_
  refine lv_lconst (v := 0) hx hb dMO_isGreater_1 rfl ?_
  refine lz_lcmp hx hb dMO_isGreater_2 (fun g_2 => ?_) (fun g_2 => ?_) (fun g_2 => ?_)
  · refine lz_if_ge (tgt := 10) hx hb dMO_isGreater_3 (by decide) (by omega) (fun c_3 => ?_) (fun c_3 => ?_)
    · exact absurd c_3 (by omega)
    · refine lv_iconst (v := iI (1)) hx hb dMO_isGreater_6 rfl ?_
      refine lv_goto (tgt := 11) hx hb dMO_isGreater_7 (by decide) ?_
      refine lv_lload_n hx hb dMO_isGreater_11 rfl (lv_at hl 1 rfl) ?_
      refine lv_lconst (v := 0) hx hb dMO_isGreater_12 rfl ?_
      refine lz_lcmp hx hb dMO_isGreater_13 (fun g_13 => ?_) (fun g_13 => ?_) (fun g_13 => ?_)
      · refine lz_if_ge (tgt := 21) hx hb dMO_isGreater_14 (by decide) (by omega) (fun c_14 => ?_) (fun c_14 => ?_)
        · exact absurd c_14 (by omega)
        · refine lv_iconst (v := iI (1)) hx hb dMO_isGreater_17 rfl ?_
          refine lv_goto (tgt := 22) hx hb dMO_isGreater_18 (by decide) ?_
          refine lz_icmp_eq (tgt := 39) hx hb dMO_isGreater_22 (by decide) (by omega) (by omega) (fun c_22 => ?_) (fun c_22 => ?_)
          · refine lv_lload_n hx hb dMO_isGreater_39 rfl (lv_at hl 0 rfl) ?_
            refine lv_lload_n hx hb dMO_isGreater_40 rfl (lv_at hl 1 rfl) ?_
            refine lz_lcmp hx hb dMO_isGreater_41 (fun g_41 => ?_) (fun g_41 => ?_) (fun g_41 => ?_)
            · refine lz_if_le (tgt := 49) hx hb dMO_isGreater_42 (by decide) (by omega) (fun c_42 => ?_) (fun c_42 => ?_)
              · refine lv_iconst (v := iI (0)) hx hb dMO_isGreater_49 rfl ?_
                exact hret 50 ls 0 (by
                      refine Or.inr ⟨rfl, ?_⟩
                      unfold uG
                      have k2 := hxa.mp g_2
                      have k13 := hya.mp g_13
                      have k41 := (i64_lt _ _).mp g_41
                      rw [hxi, hyi] at k41
                      split at k41 <;> split at k41 <;> omega) dMO_isGreater_50
              · exact absurd c_42 (by omega)
            · refine lz_if_le (tgt := 49) hx hb dMO_isGreater_42 (by decide) (by omega) (fun c_42 => ?_) (fun c_42 => ?_)
              · refine lv_iconst (v := iI (0)) hx hb dMO_isGreater_49 rfl ?_
                exact hret 50 ls 0 (by
                      refine Or.inr ⟨rfl, ?_⟩
                      unfold uG
                      have k2 := hxa.mp g_2
                      have k13 := hya.mp g_13
                      have k41 : x.toInt = y.toInt := by rw [g_41]
                      rw [hxi, hyi] at k41
                      split at k41 <;> split at k41 <;> omega) dMO_isGreater_50
              · exact absurd c_42 (by omega)
            · refine lz_if_le (tgt := 49) hx hb dMO_isGreater_42 (by decide) (by omega) (fun c_42 => ?_) (fun c_42 => ?_)
              · exact absurd c_42 (by omega)
              · refine lv_iconst (v := iI (1)) hx hb dMO_isGreater_45 rfl ?_
                refine lv_goto (tgt := 50) hx hb dMO_isGreater_46 (by decide) ?_
                exact hret 50 ls 1 (by
                      refine Or.inl ⟨rfl, ?_⟩
                      unfold uG
                      have k2 := hxa.mp g_2
                      have k13 := hya.mp g_13
                      have k41 := (i64_lt _ _).mp g_41
                      rw [hxi, hyi] at k41
                      split at k41 <;> split at k41 <;> omega) dMO_isGreater_50
          · exact absurd c_22 (by omega)
      · refine lz_if_ge (tgt := 21) hx hb dMO_isGreater_14 (by decide) (by omega) (fun c_14 => ?_) (fun c_14 => ?_)
        · refine lv_iconst (v := iI (0)) hx hb dMO_isGreater_21 rfl ?_
          refine lz_icmp_eq (tgt := 39) hx hb dMO_isGreater_22 (by decide) (by omega) (by omega) (fun c_22 => ?_) (fun c_22 => ?_)
          · exact absurd c_22 (by omega)
          · refine lv_lload_n hx hb dMO_isGreater_25 rfl (lv_at hl 0 rfl) ?_
            refine lv_lconst (v := 0) hx hb dMO_isGreater_26 rfl ?_
            refine lz_lcmp hx hb dMO_isGreater_27 (fun g_27 => ?_) (fun g_27 => ?_) (fun g_27 => ?_)
            · refine lz_if_ge (tgt := 35) hx hb dMO_isGreater_28 (by decide) (by omega) (fun c_28 => ?_) (fun c_28 => ?_)
              · exact absurd c_28 (by omega)
              · refine lv_iconst (v := iI (1)) hx hb dMO_isGreater_31 rfl ?_
                refine lv_goto (tgt := 50) hx hb dMO_isGreater_32 (by decide) ?_
                exact hret 50 ls 1 (by
                      refine Or.inl ⟨rfl, ?_⟩
                      unfold uG
                      have k2 := hxa.mp g_2
                      have k13 : y.toBitVec.toNat = 0 := by rw [g_13]; rfl
                      have k27 := hxa.mp g_27
                      omega) dMO_isGreater_50
            · refine lz_if_ge (tgt := 35) hx hb dMO_isGreater_28 (by decide) (by omega) (fun c_28 => ?_) (fun c_28 => ?_)
              · refine lv_iconst (v := iI (0)) hx hb dMO_isGreater_35 rfl ?_
                refine lv_goto (tgt := 50) hx hb dMO_isGreater_36 (by decide) ?_
                exact hret 50 ls 0 (by
                      refine Or.inr ⟨rfl, ?_⟩
                      unfold uG
                      have k2 := hxa.mp g_2
                      have k13 : y.toBitVec.toNat = 0 := by rw [g_13]; rfl
                      have k27 : x.toBitVec.toNat = 0 := by rw [g_27]; rfl
                      omega) dMO_isGreater_50
              · exact absurd c_28 (by omega)
            · refine lz_if_ge (tgt := 35) hx hb dMO_isGreater_28 (by decide) (by omega) (fun c_28 => ?_) (fun c_28 => ?_)
              · refine lv_iconst (v := iI (0)) hx hb dMO_isGreater_35 rfl ?_
                refine lv_goto (tgt := 50) hx hb dMO_isGreater_36 (by decide) ?_
                exact hret 50 ls 0 (by
                      refine Or.inr ⟨rfl, ?_⟩
                      unfold uG
                      have k2 := hxa.mp g_2
                      have k13 : y.toBitVec.toNat = 0 := by rw [g_13]; rfl
                      have k27 : ¬ 9223372036854775808 ≤ x.toBitVec.toNat := fun q9 => by have := (i64_lt _ _).mp (hxa.mpr q9); have := (i64_lt _ _).mp g_27; omega
                      omega) dMO_isGreater_50
              · exact absurd c_28 (by omega)
        · exact absurd c_14 (by omega)
      · refine lz_if_ge (tgt := 21) hx hb dMO_isGreater_14 (by decide) (by omega) (fun c_14 => ?_) (fun c_14 => ?_)
        · refine lv_iconst (v := iI (0)) hx hb dMO_isGreater_21 rfl ?_
          refine lz_icmp_eq (tgt := 39) hx hb dMO_isGreater_22 (by decide) (by omega) (by omega) (fun c_22 => ?_) (fun c_22 => ?_)
          · exact absurd c_22 (by omega)
          · refine lv_lload_n hx hb dMO_isGreater_25 rfl (lv_at hl 0 rfl) ?_
            refine lv_lconst (v := 0) hx hb dMO_isGreater_26 rfl ?_
            refine lz_lcmp hx hb dMO_isGreater_27 (fun g_27 => ?_) (fun g_27 => ?_) (fun g_27 => ?_)
            · refine lz_if_ge (tgt := 35) hx hb dMO_isGreater_28 (by decide) (by omega) (fun c_28 => ?_) (fun c_28 => ?_)
              · exact absurd c_28 (by omega)
              · refine lv_iconst (v := iI (1)) hx hb dMO_isGreater_31 rfl ?_
                refine lv_goto (tgt := 50) hx hb dMO_isGreater_32 (by decide) ?_
                exact hret 50 ls 1 (by
                      refine Or.inl ⟨rfl, ?_⟩
                      unfold uG
                      have k2 := hxa.mp g_2
                      have k13 : ¬ 9223372036854775808 ≤ y.toBitVec.toNat := fun q9 => by have := (i64_lt _ _).mp (hya.mpr q9); have := (i64_lt _ _).mp g_13; omega
                      have k27 := hxa.mp g_27
                      omega) dMO_isGreater_50
            · refine lz_if_ge (tgt := 35) hx hb dMO_isGreater_28 (by decide) (by omega) (fun c_28 => ?_) (fun c_28 => ?_)
              · refine lv_iconst (v := iI (0)) hx hb dMO_isGreater_35 rfl ?_
                refine lv_goto (tgt := 50) hx hb dMO_isGreater_36 (by decide) ?_
                exact hret 50 ls 0 (by
                      refine Or.inr ⟨rfl, ?_⟩
                      unfold uG
                      have k2 := hxa.mp g_2
                      have k13 : ¬ 9223372036854775808 ≤ y.toBitVec.toNat := fun q9 => by have := (i64_lt _ _).mp (hya.mpr q9); have := (i64_lt _ _).mp g_13; omega
                      have k27 : x.toBitVec.toNat = 0 := by rw [g_27]; rfl
                      omega) dMO_isGreater_50
              · exact absurd c_28 (by omega)
            · refine lz_if_ge (tgt := 35) hx hb dMO_isGreater_28 (by decide) (by omega) (fun c_28 => ?_) (fun c_28 => ?_)
              · refine lv_iconst (v := iI (0)) hx hb dMO_isGreater_35 rfl ?_
                refine lv_goto (tgt := 50) hx hb dMO_isGreater_36 (by decide) ?_
                exact hret 50 ls 0 (by
                      refine Or.inr ⟨rfl, ?_⟩
                      unfold uG
                      have k2 := hxa.mp g_2
                      have k13 : ¬ 9223372036854775808 ≤ y.toBitVec.toNat := fun q9 => by have := (i64_lt _ _).mp (hya.mpr q9); have := (i64_lt _ _).mp g_13; omega
                      have k27 : ¬ 9223372036854775808 ≤ x.toBitVec.toNat := fun q9 => by have := (i64_lt _ _).mp (hxa.mpr q9); have := (i64_lt _ _).mp g_27; omega
                      omega) dMO_isGreater_50
              · exact absurd c_28 (by omega)
        · exact absurd c_14 (by omega)
  · refine lz_if_ge (tgt := 10) hx hb dMO_isGreater_3 (by decide) (by omega) (fun c_3 => ?_) (fun c_3 => ?_)
    · refine lv_iconst (v := iI (0)) hx hb dMO_isGreater_10 rfl ?_
      refine lv_lload_n hx hb dMO_isGreater_11 rfl (lv_at hl 1 rfl) ?_
      refine lv_lconst (v := 0) hx hb dMO_isGreater_12 rfl ?_
      refine lz_lcmp hx hb dMO_isGreater_13 (fun g_13 => ?_) (fun g_13 => ?_) (fun g_13 => ?_)
      · refine lz_if_ge (tgt := 21) hx hb dMO_isGreater_14 (by decide) (by omega) (fun c_14 => ?_) (fun c_14 => ?_)
        · exact absurd c_14 (by omega)
        · refine lv_iconst (v := iI (1)) hx hb dMO_isGreater_17 rfl ?_
          refine lv_goto (tgt := 22) hx hb dMO_isGreater_18 (by decide) ?_
          refine lz_icmp_eq (tgt := 39) hx hb dMO_isGreater_22 (by decide) (by omega) (by omega) (fun c_22 => ?_) (fun c_22 => ?_)
          · exact absurd c_22 (by omega)
          · refine lv_lload_n hx hb dMO_isGreater_25 rfl (lv_at hl 0 rfl) ?_
            refine lv_lconst (v := 0) hx hb dMO_isGreater_26 rfl ?_
            refine lz_lcmp hx hb dMO_isGreater_27 (fun g_27 => ?_) (fun g_27 => ?_) (fun g_27 => ?_)
            · refine lz_if_ge (tgt := 35) hx hb dMO_isGreater_28 (by decide) (by omega) (fun c_28 => ?_) (fun c_28 => ?_)
              · exact absurd c_28 (by omega)
              · refine lv_iconst (v := iI (1)) hx hb dMO_isGreater_31 rfl ?_
                refine lv_goto (tgt := 50) hx hb dMO_isGreater_32 (by decide) ?_
                exact hret 50 ls 1 (by
                      refine Or.inl ⟨rfl, ?_⟩
                      unfold uG
                      have k2 : x.toBitVec.toNat = 0 := by rw [g_2]; rfl
                      have k13 := hya.mp g_13
                      have k27 := hxa.mp g_27
                      omega) dMO_isGreater_50
            · refine lz_if_ge (tgt := 35) hx hb dMO_isGreater_28 (by decide) (by omega) (fun c_28 => ?_) (fun c_28 => ?_)
              · refine lv_iconst (v := iI (0)) hx hb dMO_isGreater_35 rfl ?_
                refine lv_goto (tgt := 50) hx hb dMO_isGreater_36 (by decide) ?_
                exact hret 50 ls 0 (by
                      refine Or.inr ⟨rfl, ?_⟩
                      unfold uG
                      have k2 : x.toBitVec.toNat = 0 := by rw [g_2]; rfl
                      have k13 := hya.mp g_13
                      have k27 : x.toBitVec.toNat = 0 := by rw [g_27]; rfl
                      omega) dMO_isGreater_50
              · exact absurd c_28 (by omega)
            · refine lz_if_ge (tgt := 35) hx hb dMO_isGreater_28 (by decide) (by omega) (fun c_28 => ?_) (fun c_28 => ?_)
              · refine lv_iconst (v := iI (0)) hx hb dMO_isGreater_35 rfl ?_
                refine lv_goto (tgt := 50) hx hb dMO_isGreater_36 (by decide) ?_
                exact hret 50 ls 0 (by
                      refine Or.inr ⟨rfl, ?_⟩
                      unfold uG
                      have k2 : x.toBitVec.toNat = 0 := by rw [g_2]; rfl
                      have k13 := hya.mp g_13
                      have k27 : ¬ 9223372036854775808 ≤ x.toBitVec.toNat := fun q9 => by have := (i64_lt _ _).mp (hxa.mpr q9); have := (i64_lt _ _).mp g_27; omega
                      omega) dMO_isGreater_50
              · exact absurd c_28 (by omega)
      · refine lz_if_ge (tgt := 21) hx hb dMO_isGreater_14 (by decide) (by omega) (fun c_14 => ?_) (fun c_14 => ?_)
        · refine lv_iconst (v := iI (0)) hx hb dMO_isGreater_21 rfl ?_
          refine lz_icmp_eq (tgt := 39) hx hb dMO_isGreater_22 (by decide) (by omega) (by omega) (fun c_22 => ?_) (fun c_22 => ?_)
          · refine lv_lload_n hx hb dMO_isGreater_39 rfl (lv_at hl 0 rfl) ?_
            refine lv_lload_n hx hb dMO_isGreater_40 rfl (lv_at hl 1 rfl) ?_
            refine lz_lcmp hx hb dMO_isGreater_41 (fun g_41 => ?_) (fun g_41 => ?_) (fun g_41 => ?_)
            · refine lz_if_le (tgt := 49) hx hb dMO_isGreater_42 (by decide) (by omega) (fun c_42 => ?_) (fun c_42 => ?_)
              · refine lv_iconst (v := iI (0)) hx hb dMO_isGreater_49 rfl ?_
                exact hret 50 ls 0 (by
                      refine Or.inr ⟨rfl, ?_⟩
                      unfold uG
                      have k2 : x.toBitVec.toNat = 0 := by rw [g_2]; rfl
                      have k13 : y.toBitVec.toNat = 0 := by rw [g_13]; rfl
                      have k41 := (i64_lt _ _).mp g_41
                      rw [hxi, hyi] at k41
                      split at k41 <;> split at k41 <;> omega) dMO_isGreater_50
              · exact absurd c_42 (by omega)
            · refine lz_if_le (tgt := 49) hx hb dMO_isGreater_42 (by decide) (by omega) (fun c_42 => ?_) (fun c_42 => ?_)
              · refine lv_iconst (v := iI (0)) hx hb dMO_isGreater_49 rfl ?_
                exact hret 50 ls 0 (by
                      refine Or.inr ⟨rfl, ?_⟩
                      unfold uG
                      have k2 : x.toBitVec.toNat = 0 := by rw [g_2]; rfl
                      have k13 : y.toBitVec.toNat = 0 := by rw [g_13]; rfl
                      have k41 : x.toInt = y.toInt := by rw [g_41]
                      rw [hxi, hyi] at k41
                      split at k41 <;> split at k41 <;> omega) dMO_isGreater_50
              · exact absurd c_42 (by omega)
            · refine lz_if_le (tgt := 49) hx hb dMO_isGreater_42 (by decide) (by omega) (fun c_42 => ?_) (fun c_42 => ?_)
              · exact absurd c_42 (by omega)
              · refine lv_iconst (v := iI (1)) hx hb dMO_isGreater_45 rfl ?_
                refine lv_goto (tgt := 50) hx hb dMO_isGreater_46 (by decide) ?_
                exact hret 50 ls 1 (by
                      refine Or.inl ⟨rfl, ?_⟩
                      unfold uG
                      have k2 : x.toBitVec.toNat = 0 := by rw [g_2]; rfl
                      have k13 : y.toBitVec.toNat = 0 := by rw [g_13]; rfl
                      have k41 := (i64_lt _ _).mp g_41
                      rw [hxi, hyi] at k41
                      split at k41 <;> split at k41 <;> omega) dMO_isGreater_50
          · exact absurd c_22 (by omega)
        · exact absurd c_14 (by omega)
      · refine lz_if_ge (tgt := 21) hx hb dMO_isGreater_14 (by decide) (by omega) (fun c_14 => ?_) (fun c_14 => ?_)
        · refine lv_iconst (v := iI (0)) hx hb dMO_isGreater_21 rfl ?_
          refine lz_icmp_eq (tgt := 39) hx hb dMO_isGreater_22 (by decide) (by omega) (by omega) (fun c_22 => ?_) (fun c_22 => ?_)
          · refine lv_lload_n hx hb dMO_isGreater_39 rfl (lv_at hl 0 rfl) ?_
            refine lv_lload_n hx hb dMO_isGreater_40 rfl (lv_at hl 1 rfl) ?_
            refine lz_lcmp hx hb dMO_isGreater_41 (fun g_41 => ?_) (fun g_41 => ?_) (fun g_41 => ?_)
            · refine lz_if_le (tgt := 49) hx hb dMO_isGreater_42 (by decide) (by omega) (fun c_42 => ?_) (fun c_42 => ?_)
              · refine lv_iconst (v := iI (0)) hx hb dMO_isGreater_49 rfl ?_
                exact hret 50 ls 0 (by
                      refine Or.inr ⟨rfl, ?_⟩
                      unfold uG
                      have k2 : x.toBitVec.toNat = 0 := by rw [g_2]; rfl
                      have k13 : ¬ 9223372036854775808 ≤ y.toBitVec.toNat := fun q9 => by have := (i64_lt _ _).mp (hya.mpr q9); have := (i64_lt _ _).mp g_13; omega
                      have k41 := (i64_lt _ _).mp g_41
                      rw [hxi, hyi] at k41
                      split at k41 <;> split at k41 <;> omega) dMO_isGreater_50
              · exact absurd c_42 (by omega)
            · refine lz_if_le (tgt := 49) hx hb dMO_isGreater_42 (by decide) (by omega) (fun c_42 => ?_) (fun c_42 => ?_)
              · refine lv_iconst (v := iI (0)) hx hb dMO_isGreater_49 rfl ?_
                exact hret 50 ls 0 (by
                      refine Or.inr ⟨rfl, ?_⟩
                      unfold uG
                      have k2 : x.toBitVec.toNat = 0 := by rw [g_2]; rfl
                      have k13 : ¬ 9223372036854775808 ≤ y.toBitVec.toNat := fun q9 => by have := (i64_lt _ _).mp (hya.mpr q9); have := (i64_lt _ _).mp g_13; omega
                      have k41 : x.toInt = y.toInt := by rw [g_41]
                      rw [hxi, hyi] at k41
                      split at k41 <;> split at k41 <;> omega) dMO_isGreater_50
              · exact absurd c_42 (by omega)
            · refine lz_if_le (tgt := 49) hx hb dMO_isGreater_42 (by decide) (by omega) (fun c_42 => ?_) (fun c_42 => ?_)
              · exact absurd c_42 (by omega)
              · refine lv_iconst (v := iI (1)) hx hb dMO_isGreater_45 rfl ?_
                refine lv_goto (tgt := 50) hx hb dMO_isGreater_46 (by decide) ?_
                exact hret 50 ls 1 (by
                      refine Or.inl ⟨rfl, ?_⟩
                      unfold uG
                      have k2 : x.toBitVec.toNat = 0 := by rw [g_2]; rfl
                      have k13 : ¬ 9223372036854775808 ≤ y.toBitVec.toNat := fun q9 => by have := (i64_lt _ _).mp (hya.mpr q9); have := (i64_lt _ _).mp g_13; omega
                      have k41 := (i64_lt _ _).mp g_41
                      rw [hxi, hyi] at k41
                      split at k41 <;> split at k41 <;> omega) dMO_isGreater_50
          · exact absurd c_22 (by omega)
        · exact absurd c_14 (by omega)
    · exact absurd c_3 (by omega)
  · refine lz_if_ge (tgt := 10) hx hb dMO_isGreater_3 (by decide) (by omega) (fun c_3 => ?_) (fun c_3 => ?_)
    · refine lv_iconst (v := iI (0)) hx hb dMO_isGreater_10 rfl ?_
      refine lv_lload_n hx hb dMO_isGreater_11 rfl (lv_at hl 1 rfl) ?_
      refine lv_lconst (v := 0) hx hb dMO_isGreater_12 rfl ?_
      refine lz_lcmp hx hb dMO_isGreater_13 (fun g_13 => ?_) (fun g_13 => ?_) (fun g_13 => ?_)
      · refine lz_if_ge (tgt := 21) hx hb dMO_isGreater_14 (by decide) (by omega) (fun c_14 => ?_) (fun c_14 => ?_)
        · exact absurd c_14 (by omega)
        · refine lv_iconst (v := iI (1)) hx hb dMO_isGreater_17 rfl ?_
          refine lv_goto (tgt := 22) hx hb dMO_isGreater_18 (by decide) ?_
          refine lz_icmp_eq (tgt := 39) hx hb dMO_isGreater_22 (by decide) (by omega) (by omega) (fun c_22 => ?_) (fun c_22 => ?_)
          · exact absurd c_22 (by omega)
          · refine lv_lload_n hx hb dMO_isGreater_25 rfl (lv_at hl 0 rfl) ?_
            refine lv_lconst (v := 0) hx hb dMO_isGreater_26 rfl ?_
            refine lz_lcmp hx hb dMO_isGreater_27 (fun g_27 => ?_) (fun g_27 => ?_) (fun g_27 => ?_)
            · refine lz_if_ge (tgt := 35) hx hb dMO_isGreater_28 (by decide) (by omega) (fun c_28 => ?_) (fun c_28 => ?_)
              · exact absurd c_28 (by omega)
              · refine lv_iconst (v := iI (1)) hx hb dMO_isGreater_31 rfl ?_
                refine lv_goto (tgt := 50) hx hb dMO_isGreater_32 (by decide) ?_
                exact hret 50 ls 1 (by
                      refine Or.inl ⟨rfl, ?_⟩
                      unfold uG
                      have k2 : ¬ 9223372036854775808 ≤ x.toBitVec.toNat := fun q9 => by have := (i64_lt _ _).mp (hxa.mpr q9); have := (i64_lt _ _).mp g_2; omega
                      have k13 := hya.mp g_13
                      have k27 := hxa.mp g_27
                      omega) dMO_isGreater_50
            · refine lz_if_ge (tgt := 35) hx hb dMO_isGreater_28 (by decide) (by omega) (fun c_28 => ?_) (fun c_28 => ?_)
              · refine lv_iconst (v := iI (0)) hx hb dMO_isGreater_35 rfl ?_
                refine lv_goto (tgt := 50) hx hb dMO_isGreater_36 (by decide) ?_
                exact hret 50 ls 0 (by
                      refine Or.inr ⟨rfl, ?_⟩
                      unfold uG
                      have k2 : ¬ 9223372036854775808 ≤ x.toBitVec.toNat := fun q9 => by have := (i64_lt _ _).mp (hxa.mpr q9); have := (i64_lt _ _).mp g_2; omega
                      have k13 := hya.mp g_13
                      have k27 : x.toBitVec.toNat = 0 := by rw [g_27]; rfl
                      omega) dMO_isGreater_50
              · exact absurd c_28 (by omega)
            · refine lz_if_ge (tgt := 35) hx hb dMO_isGreater_28 (by decide) (by omega) (fun c_28 => ?_) (fun c_28 => ?_)
              · refine lv_iconst (v := iI (0)) hx hb dMO_isGreater_35 rfl ?_
                refine lv_goto (tgt := 50) hx hb dMO_isGreater_36 (by decide) ?_
                exact hret 50 ls 0 (by
                      refine Or.inr ⟨rfl, ?_⟩
                      unfold uG
                      have k2 : ¬ 9223372036854775808 ≤ x.toBitVec.toNat := fun q9 => by have := (i64_lt _ _).mp (hxa.mpr q9); have := (i64_lt _ _).mp g_2; omega
                      have k13 := hya.mp g_13
                      have k27 : ¬ 9223372036854775808 ≤ x.toBitVec.toNat := fun q9 => by have := (i64_lt _ _).mp (hxa.mpr q9); have := (i64_lt _ _).mp g_27; omega
                      omega) dMO_isGreater_50
              · exact absurd c_28 (by omega)
      · refine lz_if_ge (tgt := 21) hx hb dMO_isGreater_14 (by decide) (by omega) (fun c_14 => ?_) (fun c_14 => ?_)
        · refine lv_iconst (v := iI (0)) hx hb dMO_isGreater_21 rfl ?_
          refine lz_icmp_eq (tgt := 39) hx hb dMO_isGreater_22 (by decide) (by omega) (by omega) (fun c_22 => ?_) (fun c_22 => ?_)
          · refine lv_lload_n hx hb dMO_isGreater_39 rfl (lv_at hl 0 rfl) ?_
            refine lv_lload_n hx hb dMO_isGreater_40 rfl (lv_at hl 1 rfl) ?_
            refine lz_lcmp hx hb dMO_isGreater_41 (fun g_41 => ?_) (fun g_41 => ?_) (fun g_41 => ?_)
            · refine lz_if_le (tgt := 49) hx hb dMO_isGreater_42 (by decide) (by omega) (fun c_42 => ?_) (fun c_42 => ?_)
              · refine lv_iconst (v := iI (0)) hx hb dMO_isGreater_49 rfl ?_
                exact hret 50 ls 0 (by
                      refine Or.inr ⟨rfl, ?_⟩
                      unfold uG
                      have k2 : ¬ 9223372036854775808 ≤ x.toBitVec.toNat := fun q9 => by have := (i64_lt _ _).mp (hxa.mpr q9); have := (i64_lt _ _).mp g_2; omega
                      have k13 : y.toBitVec.toNat = 0 := by rw [g_13]; rfl
                      have k41 := (i64_lt _ _).mp g_41
                      rw [hxi, hyi] at k41
                      split at k41 <;> split at k41 <;> omega) dMO_isGreater_50
              · exact absurd c_42 (by omega)
            · refine lz_if_le (tgt := 49) hx hb dMO_isGreater_42 (by decide) (by omega) (fun c_42 => ?_) (fun c_42 => ?_)
              · refine lv_iconst (v := iI (0)) hx hb dMO_isGreater_49 rfl ?_
                exact hret 50 ls 0 (by
                      refine Or.inr ⟨rfl, ?_⟩
                      unfold uG
                      have k2 : ¬ 9223372036854775808 ≤ x.toBitVec.toNat := fun q9 => by have := (i64_lt _ _).mp (hxa.mpr q9); have := (i64_lt _ _).mp g_2; omega
                      have k13 : y.toBitVec.toNat = 0 := by rw [g_13]; rfl
                      have k41 : x.toInt = y.toInt := by rw [g_41]
                      rw [hxi, hyi] at k41
                      split at k41 <;> split at k41 <;> omega) dMO_isGreater_50
              · exact absurd c_42 (by omega)
            · refine lz_if_le (tgt := 49) hx hb dMO_isGreater_42 (by decide) (by omega) (fun c_42 => ?_) (fun c_42 => ?_)
              · exact absurd c_42 (by omega)
              · refine lv_iconst (v := iI (1)) hx hb dMO_isGreater_45 rfl ?_
                refine lv_goto (tgt := 50) hx hb dMO_isGreater_46 (by decide) ?_
                exact hret 50 ls 1 (by
                      refine Or.inl ⟨rfl, ?_⟩
                      unfold uG
                      have k2 : ¬ 9223372036854775808 ≤ x.toBitVec.toNat := fun q9 => by have := (i64_lt _ _).mp (hxa.mpr q9); have := (i64_lt _ _).mp g_2; omega
                      have k13 : y.toBitVec.toNat = 0 := by rw [g_13]; rfl
                      have k41 := (i64_lt _ _).mp g_41
                      rw [hxi, hyi] at k41
                      split at k41 <;> split at k41 <;> omega) dMO_isGreater_50
          · exact absurd c_22 (by omega)
        · exact absurd c_14 (by omega)
      · refine lz_if_ge (tgt := 21) hx hb dMO_isGreater_14 (by decide) (by omega) (fun c_14 => ?_) (fun c_14 => ?_)
        · refine lv_iconst (v := iI (0)) hx hb dMO_isGreater_21 rfl ?_
          refine lz_icmp_eq (tgt := 39) hx hb dMO_isGreater_22 (by decide) (by omega) (by omega) (fun c_22 => ?_) (fun c_22 => ?_)
          · refine lv_lload_n hx hb dMO_isGreater_39 rfl (lv_at hl 0 rfl) ?_
            refine lv_lload_n hx hb dMO_isGreater_40 rfl (lv_at hl 1 rfl) ?_
            refine lz_lcmp hx hb dMO_isGreater_41 (fun g_41 => ?_) (fun g_41 => ?_) (fun g_41 => ?_)
            · refine lz_if_le (tgt := 49) hx hb dMO_isGreater_42 (by decide) (by omega) (fun c_42 => ?_) (fun c_42 => ?_)
              · refine lv_iconst (v := iI (0)) hx hb dMO_isGreater_49 rfl ?_
                exact hret 50 ls 0 (by
                      refine Or.inr ⟨rfl, ?_⟩
                      unfold uG
                      have k2 : ¬ 9223372036854775808 ≤ x.toBitVec.toNat := fun q9 => by have := (i64_lt _ _).mp (hxa.mpr q9); have := (i64_lt _ _).mp g_2; omega
                      have k13 : ¬ 9223372036854775808 ≤ y.toBitVec.toNat := fun q9 => by have := (i64_lt _ _).mp (hya.mpr q9); have := (i64_lt _ _).mp g_13; omega
                      have k41 := (i64_lt _ _).mp g_41
                      rw [hxi, hyi] at k41
                      split at k41 <;> split at k41 <;> omega) dMO_isGreater_50
              · exact absurd c_42 (by omega)
            · refine lz_if_le (tgt := 49) hx hb dMO_isGreater_42 (by decide) (by omega) (fun c_42 => ?_) (fun c_42 => ?_)
              · refine lv_iconst (v := iI (0)) hx hb dMO_isGreater_49 rfl ?_
                exact hret 50 ls 0 (by
                      refine Or.inr ⟨rfl, ?_⟩
                      unfold uG
                      have k2 : ¬ 9223372036854775808 ≤ x.toBitVec.toNat := fun q9 => by have := (i64_lt _ _).mp (hxa.mpr q9); have := (i64_lt _ _).mp g_2; omega
                      have k13 : ¬ 9223372036854775808 ≤ y.toBitVec.toNat := fun q9 => by have := (i64_lt _ _).mp (hya.mpr q9); have := (i64_lt _ _).mp g_13; omega
                      have k41 : x.toInt = y.toInt := by rw [g_41]
                      rw [hxi, hyi] at k41
                      split at k41 <;> split at k41 <;> omega) dMO_isGreater_50
              · exact absurd c_42 (by omega)
            · refine lz_if_le (tgt := 49) hx hb dMO_isGreater_42 (by decide) (by omega) (fun c_42 => ?_) (fun c_42 => ?_)
              · exact absurd c_42 (by omega)
              · refine lv_iconst (v := iI (1)) hx hb dMO_isGreater_45 rfl ?_
                refine lv_goto (tgt := 50) hx hb dMO_isGreater_46 (by decide) ?_
                exact hret 50 ls 1 (by
                      refine Or.inl ⟨rfl, ?_⟩
                      unfold uG
                      have k2 : ¬ 9223372036854775808 ≤ x.toBitVec.toNat := fun q9 => by have := (i64_lt _ _).mp (hxa.mpr q9); have := (i64_lt _ _).mp g_2; omega
                      have k13 : ¬ 9223372036854775808 ≤ y.toBitVec.toNat := fun q9 => by have := (i64_lt _ _).mp (hya.mpr q9); have := (i64_lt _ _).mp g_13; omega
                      have k41 := (i64_lt _ _).mp g_41
                      rw [hxi, hyi] at k41
                      split at k41 <;> split at k41 <;> omega) dMO_isGreater_50
          · exact absurd c_22 (by omega)
        · exact absurd c_14 (by omega)
    · exact absurd c_3 (by omega)

def rmMO_comesAhead : Room := { frames := 1, cells := 0, slots := 0, locals := 23 }
set_option maxHeartbeats 4000000 in
set_option maxRecDepth 100000 in
theorem mMO_comesAhead (l : Launch) (D : va_G) (cI cJ cZ : ClassId) (q : MoA) (cn gn ln : Int) (a b c9 : Int64) (p9 : Nat) (fj : Nat → Int64) (hp : p9 + 2 < 15360) : zRI l yMO_comesAhead wMO_comesAhead rmMO_comesAhead D vwCl (zM cI cJ cZ) [.ref q.mo, .long a, .long b, .long c9, .int (iI (p9 : Int))] [(moC q cn gn ln), (q.xj, .inl (cJ, 15360, .inr (.inl fj)))] (fun z => (z = 1 ∧ ah3 a b c9 (fj p9) (fj (p9 + 1)) (fj (p9 + 2))) ∨ (z = 0 ∧ ¬ ah3 a b c9 (fj p9) (fj (p9 + 1)) (fj (p9 + 2)))) := by
  refine zRI.of (cc := cMO_comesAhead) (maxL := 8) (rt := .boolean) (by decide) rfl (Nat.le_of_ble_eq_true rfl) (fun z h => by rcases h with ⟨rfl, _⟩ | ⟨rfl, _⟩ <;> decide) ?_
  intro p e s m args below meth c ls Q hx hb hml hown hts hK hP hX hl hret
  have hS0 : va_S (fun _ => False) s.heap s.heap [] := va_S.rf
  have hl : lv_has ls 8 [(0, .ref q.mo), (1, .long a), (3, .long b), (5, .long c9), (7, .int (iI (p9 : Int)))] := hl
  refine lv_lload_n hx hb dMO_comesAhead_0 rfl (lv_at hl 1 rfl) ?_
  refine lv_aload_n hx hb dMO_comesAhead_1 rfl (lv_at hl 0 rfl) ?_
  refine va_get (D := D) (ci := 7) (v := .ref q.xj) (C := nMO) (T := fMO) (N := 24) hx hb hts iwMO hown hK hP 0 rfl rfl 15 (by decide) (hts _ (List.mem_cons_of_mem _ lkMO_47)) (fun _ h9 => h9) rfl dMO_comesAhead_2 ?_
  refine lv_iload hx hb dMO_comesAhead_5 (lv_at hl 4 rfl) ?_
  refine lz_lald hx hb hK hP 1 1 rfl rfl (z := (p9 : Int)) p9 rfl (by omega) dMO_comesAhead_7 ?_
  refine lz_lcmp hx hb dMO_comesAhead_8 (fun g_8 => ?_) (fun g_8 => ?_) (fun g_8 => ?_)
  · refine lz_if_eq (tgt := 24) hx hb dMO_comesAhead_9 (by decide) (by omega) (fun c_9 => ?_) (fun c_9 => ?_)
    · exact absurd c_9 (by omega)
    · refine lv_lload_n hx hb dMO_comesAhead_12 rfl (lv_at hl 1 rfl) ?_
      refine lv_aload_n hx hb dMO_comesAhead_13 rfl (lv_at hl 0 rfl) ?_
      refine va_get (D := D) (ci := 7) (v := .ref q.xj) (C := nMO) (T := fMO) (N := 24) hx hb hts iwMO hown hK hP 0 rfl rfl 15 (by decide) (hts _ (List.mem_cons_of_mem _ lkMO_47)) (fun _ h9 => h9) rfl dMO_comesAhead_14 ?_
      refine lv_iload hx hb dMO_comesAhead_17 (lv_at hl 4 rfl) ?_
      refine lz_lald hx hb hK hP 1 1 rfl rfl (z := (p9 : Int)) p9 rfl (by omega) dMO_comesAhead_19 ?_
      refine zRI.back ((va_runS (As := [.long a, .long (fj p9)]) (rest := []) ⟨hx, hb, hml, hown, hts⟩ (mMO_isGreater l D cI cJ cZ a (fj p9)) (va_cwS 2 hts (gT1 lkMO_147 (gT1 smMO_isGreater (gT1 iniMO (gTW kcMO_isGreater)))) rfl rfl rfl (by decide +kernel) ⟨Nat.le_of_ble_eq_true rfl, Nat.le_of_ble_eq_true rfl⟩) ⟨zRd_blind, zRd.at (wc := []) hK (hP.sub (ws' := []) [] rfl) hX⟩ rfl rfl hl.1 rfl (lv_room (Nat.le_of_ble_eq_true rfl)) dMO_comesAhead_20 ⟨Nat.le_of_ble_eq_true rfl, Nat.le_of_ble_eq_true rfl⟩).run) (fun z_20 q_20 => ?_)
      exact hret 23 ls z_20 (by
            rcases q_20 with ⟨e1, e2⟩ | ⟨e1, e2⟩
            · exact Or.inl ⟨e1, Or.inl ⟨(by intro e9; rw [e9, i64_lt] at g_8; omega), e2⟩⟩
            · exact Or.inr ⟨e1, fun q9 => by rcases q9 with ⟨_, q8⟩ | ⟨q8, _⟩ | ⟨q8, _⟩ <;> first | exact e2 q8 | exact absurd q8 (by intro e9; rw [e9, i64_lt] at g_8; omega)⟩) dMO_comesAhead_23
  · refine lz_if_eq (tgt := 24) hx hb dMO_comesAhead_9 (by decide) (by omega) (fun c_9 => ?_) (fun c_9 => ?_)
    · refine lv_lload_n hx hb dMO_comesAhead_24 rfl (lv_at hl 2 rfl) ?_
      refine lv_aload_n hx hb dMO_comesAhead_25 rfl (lv_at hl 0 rfl) ?_
      refine va_get (D := D) (ci := 7) (v := .ref q.xj) (C := nMO) (T := fMO) (N := 24) hx hb hts iwMO hown hK hP 0 rfl rfl 15 (by decide) (hts _ (List.mem_cons_of_mem _ lkMO_47)) (fun _ h9 => h9) rfl dMO_comesAhead_26 ?_
      refine lv_iload hx hb dMO_comesAhead_29 (lv_at hl 4 rfl) ?_
      refine lv_iconst (v := iI (1)) hx hb dMO_comesAhead_31 rfl ?_
      refine lz_iadd hx hb dMO_comesAhead_32 ?_
      refine lz_lald hx hb hK hP 1 1 rfl rfl (z := (p9 : Int) + 1) (p9 + 1) (by omega) (by omega) dMO_comesAhead_33 ?_
      refine lz_lcmp hx hb dMO_comesAhead_34 (fun g_34 => ?_) (fun g_34 => ?_) (fun g_34 => ?_)
      · refine lz_if_eq (tgt := 52) hx hb dMO_comesAhead_35 (by decide) (by omega) (fun c_35 => ?_) (fun c_35 => ?_)
        · exact absurd c_35 (by omega)
        · refine lv_lload_n hx hb dMO_comesAhead_38 rfl (lv_at hl 2 rfl) ?_
          refine lv_aload_n hx hb dMO_comesAhead_39 rfl (lv_at hl 0 rfl) ?_
          refine va_get (D := D) (ci := 7) (v := .ref q.xj) (C := nMO) (T := fMO) (N := 24) hx hb hts iwMO hown hK hP 0 rfl rfl 15 (by decide) (hts _ (List.mem_cons_of_mem _ lkMO_47)) (fun _ h9 => h9) rfl dMO_comesAhead_40 ?_
          refine lv_iload hx hb dMO_comesAhead_43 (lv_at hl 4 rfl) ?_
          refine lv_iconst (v := iI (1)) hx hb dMO_comesAhead_45 rfl ?_
          refine lz_iadd hx hb dMO_comesAhead_46 ?_
          refine lz_lald hx hb hK hP 1 1 rfl rfl (z := (p9 : Int) + 1) (p9 + 1) (by omega) (by omega) dMO_comesAhead_47 ?_
          refine zRI.back ((va_runS (As := [.long b, .long (fj (p9 + 1))]) (rest := []) ⟨hx, hb, hml, hown, hts⟩ (mMO_isGreater l D cI cJ cZ b (fj (p9 + 1))) (va_cwS 2 hts (gT1 lkMO_147 (gT1 smMO_isGreater (gT1 iniMO (gTW kcMO_isGreater)))) rfl rfl rfl (by decide +kernel) ⟨Nat.le_of_ble_eq_true rfl, Nat.le_of_ble_eq_true rfl⟩) ⟨zRd_blind, zRd.at (wc := []) hK (hP.sub (ws' := []) [] rfl) hX⟩ rfl rfl hl.1 rfl (lv_room (Nat.le_of_ble_eq_true rfl)) dMO_comesAhead_48 ⟨Nat.le_of_ble_eq_true rfl, Nat.le_of_ble_eq_true rfl⟩).run) (fun z_48 q_48 => ?_)
          exact hret 51 ls z_48 (by
                rcases q_48 with ⟨e1, e2⟩ | ⟨e1, e2⟩
                · exact Or.inl ⟨e1, Or.inr (Or.inl ⟨g_8, (by intro e9; rw [e9, i64_lt] at g_34; omega), e2⟩)⟩
                · exact Or.inr ⟨e1, fun q9 => by rcases q9 with ⟨q8, _⟩ | ⟨_, _, q8⟩ | ⟨_, q8, _⟩ <;> first | exact e2 q8 | exact absurd g_8 q8 | exact absurd q8 (by intro e9; rw [e9, i64_lt] at g_34; omega)⟩) dMO_comesAhead_51
      · refine lz_if_eq (tgt := 52) hx hb dMO_comesAhead_35 (by decide) (by omega) (fun c_35 => ?_) (fun c_35 => ?_)
        · refine lv_lload hx hb dMO_comesAhead_52 (lv_at hl 3 rfl) ?_
          refine lv_aload_n hx hb dMO_comesAhead_54 rfl (lv_at hl 0 rfl) ?_
          refine va_get (D := D) (ci := 7) (v := .ref q.xj) (C := nMO) (T := fMO) (N := 24) hx hb hts iwMO hown hK hP 0 rfl rfl 15 (by decide) (hts _ (List.mem_cons_of_mem _ lkMO_47)) (fun _ h9 => h9) rfl dMO_comesAhead_55 ?_
          refine lv_iload hx hb dMO_comesAhead_58 (lv_at hl 4 rfl) ?_
          refine lv_iconst (v := iI (2)) hx hb dMO_comesAhead_60 rfl ?_
          refine lz_iadd hx hb dMO_comesAhead_61 ?_
          refine lz_lald hx hb hK hP 1 1 rfl rfl (z := (p9 : Int) + 2) (p9 + 2) (by omega) (by omega) dMO_comesAhead_62 ?_
          refine zRI.back ((va_runS (As := [.long c9, .long (fj (p9 + 2))]) (rest := []) ⟨hx, hb, hml, hown, hts⟩ (mMO_isGreater l D cI cJ cZ c9 (fj (p9 + 2))) (va_cwS 2 hts (gT1 lkMO_147 (gT1 smMO_isGreater (gT1 iniMO (gTW kcMO_isGreater)))) rfl rfl rfl (by decide +kernel) ⟨Nat.le_of_ble_eq_true rfl, Nat.le_of_ble_eq_true rfl⟩) ⟨zRd_blind, zRd.at (wc := []) hK (hP.sub (ws' := []) [] rfl) hX⟩ rfl rfl hl.1 rfl (lv_room (Nat.le_of_ble_eq_true rfl)) dMO_comesAhead_63 ⟨Nat.le_of_ble_eq_true rfl, Nat.le_of_ble_eq_true rfl⟩).run) (fun z_63 q_63 => ?_)
          exact hret 66 ls z_63 (by
                rcases q_63 with ⟨e1, e2⟩ | ⟨e1, e2⟩
                · exact Or.inl ⟨e1, Or.inr (Or.inr ⟨g_8, g_34, e2⟩)⟩
                · exact Or.inr ⟨e1, fun q9 => by rcases q9 with ⟨q8, _⟩ | ⟨_, q8, _⟩ | ⟨_, _, q8⟩ <;> first | exact e2 q8 | exact absurd g_8 q8 | exact absurd g_34 q8⟩) dMO_comesAhead_66
        · exact absurd c_35 (by omega)
      · refine lz_if_eq (tgt := 52) hx hb dMO_comesAhead_35 (by decide) (by omega) (fun c_35 => ?_) (fun c_35 => ?_)
        · exact absurd c_35 (by omega)
        · refine lv_lload_n hx hb dMO_comesAhead_38 rfl (lv_at hl 2 rfl) ?_
          refine lv_aload_n hx hb dMO_comesAhead_39 rfl (lv_at hl 0 rfl) ?_
          refine va_get (D := D) (ci := 7) (v := .ref q.xj) (C := nMO) (T := fMO) (N := 24) hx hb hts iwMO hown hK hP 0 rfl rfl 15 (by decide) (hts _ (List.mem_cons_of_mem _ lkMO_47)) (fun _ h9 => h9) rfl dMO_comesAhead_40 ?_
          refine lv_iload hx hb dMO_comesAhead_43 (lv_at hl 4 rfl) ?_
          refine lv_iconst (v := iI (1)) hx hb dMO_comesAhead_45 rfl ?_
          refine lz_iadd hx hb dMO_comesAhead_46 ?_
          refine lz_lald hx hb hK hP 1 1 rfl rfl (z := (p9 : Int) + 1) (p9 + 1) (by omega) (by omega) dMO_comesAhead_47 ?_
          refine zRI.back ((va_runS (As := [.long b, .long (fj (p9 + 1))]) (rest := []) ⟨hx, hb, hml, hown, hts⟩ (mMO_isGreater l D cI cJ cZ b (fj (p9 + 1))) (va_cwS 2 hts (gT1 lkMO_147 (gT1 smMO_isGreater (gT1 iniMO (gTW kcMO_isGreater)))) rfl rfl rfl (by decide +kernel) ⟨Nat.le_of_ble_eq_true rfl, Nat.le_of_ble_eq_true rfl⟩) ⟨zRd_blind, zRd.at (wc := []) hK (hP.sub (ws' := []) [] rfl) hX⟩ rfl rfl hl.1 rfl (lv_room (Nat.le_of_ble_eq_true rfl)) dMO_comesAhead_48 ⟨Nat.le_of_ble_eq_true rfl, Nat.le_of_ble_eq_true rfl⟩).run) (fun z_48 q_48 => ?_)
          exact hret 51 ls z_48 (by
                rcases q_48 with ⟨e1, e2⟩ | ⟨e1, e2⟩
                · exact Or.inl ⟨e1, Or.inr (Or.inl ⟨g_8, (by intro e9; rw [e9, i64_lt] at g_34; omega), e2⟩)⟩
                · exact Or.inr ⟨e1, fun q9 => by rcases q9 with ⟨q8, _⟩ | ⟨_, _, q8⟩ | ⟨_, q8, _⟩ <;> first | exact e2 q8 | exact absurd g_8 q8 | exact absurd q8 (by intro e9; rw [e9, i64_lt] at g_34; omega)⟩) dMO_comesAhead_51
    · exact absurd c_9 (by omega)
  · refine lz_if_eq (tgt := 24) hx hb dMO_comesAhead_9 (by decide) (by omega) (fun c_9 => ?_) (fun c_9 => ?_)
    · exact absurd c_9 (by omega)
    · refine lv_lload_n hx hb dMO_comesAhead_12 rfl (lv_at hl 1 rfl) ?_
      refine lv_aload_n hx hb dMO_comesAhead_13 rfl (lv_at hl 0 rfl) ?_
      refine va_get (D := D) (ci := 7) (v := .ref q.xj) (C := nMO) (T := fMO) (N := 24) hx hb hts iwMO hown hK hP 0 rfl rfl 15 (by decide) (hts _ (List.mem_cons_of_mem _ lkMO_47)) (fun _ h9 => h9) rfl dMO_comesAhead_14 ?_
      refine lv_iload hx hb dMO_comesAhead_17 (lv_at hl 4 rfl) ?_
      refine lz_lald hx hb hK hP 1 1 rfl rfl (z := (p9 : Int)) p9 rfl (by omega) dMO_comesAhead_19 ?_
      refine zRI.back ((va_runS (As := [.long a, .long (fj p9)]) (rest := []) ⟨hx, hb, hml, hown, hts⟩ (mMO_isGreater l D cI cJ cZ a (fj p9)) (va_cwS 2 hts (gT1 lkMO_147 (gT1 smMO_isGreater (gT1 iniMO (gTW kcMO_isGreater)))) rfl rfl rfl (by decide +kernel) ⟨Nat.le_of_ble_eq_true rfl, Nat.le_of_ble_eq_true rfl⟩) ⟨zRd_blind, zRd.at (wc := []) hK (hP.sub (ws' := []) [] rfl) hX⟩ rfl rfl hl.1 rfl (lv_room (Nat.le_of_ble_eq_true rfl)) dMO_comesAhead_20 ⟨Nat.le_of_ble_eq_true rfl, Nat.le_of_ble_eq_true rfl⟩).run) (fun z_20 q_20 => ?_)
      exact hret 23 ls z_20 (by
            rcases q_20 with ⟨e1, e2⟩ | ⟨e1, e2⟩
            · exact Or.inl ⟨e1, Or.inl ⟨(by intro e9; rw [e9, i64_lt] at g_8; omega), e2⟩⟩
            · exact Or.inr ⟨e1, fun q9 => by rcases q9 with ⟨_, q8⟩ | ⟨q8, _⟩ | ⟨q8, _⟩ <;> first | exact e2 q8 | exact absurd q8 (by intro e9; rw [e9, i64_lt] at g_8; omega)⟩) dMO_comesAhead_23

def rmMO_keepHalf : Room := { frames := 2, cells := 0, slots := 0, locals := 50 }
set_option maxHeartbeats 4000000 in
set_option maxRecDepth 100000 in
theorem mMO_keepHalf (l : Launch) (D : va_G) (cI cJ cZ : ClassId) (q : MoA) (cn gn ln : Int) (ks : List Int) (g h : Nat) (mk fh : Nat → Int) (fj : Nat → Int64) (hln : ks.length ≤ 192) (hg : g < 40) (hh : fh g = (h : Int)) (hh2 : h < 127) (hmk : ∀ t, t < ks.length → mk t = 1 ∨ mk t = 2) : zV l yMO_keepHalf wMO_keepHalf rmMO_keepHalf D vwCl (zM cI cJ cZ) [.ref q.mo, .int (iI (g : Int)), .int (iI (ks.length : Int))] [(moC q cn gn ln), (q.xr, .inl (cI, 200, .inl (zf mk))), (q.xh, .inl (cI, 40, .inl (zf fh))), (q.xj, .inl (cJ, 15360, .inr (.inl fj)))] (S := (Nat → Int64)) (fun u => ∃ (p : Nat) (a b c : Int64), wrd mk ks.length a b c ∧ insJ fj u (384 * g) h p a b c) (fun u => [(moC q cn gn ln), (q.xr, .inl (cI, 200, .inl (zf mk))), (q.xh, .inl (cI, 40, .inl (zf (zu fh g ((h : Int) + 1))))), (q.xj, .inl (cJ, 15360, .inr (.inl u)))]) := by
  refine zV.of (cc := cMO_keepHalf) (maxL := 12) (by decide) rfl (Nat.le_of_ble_eq_true rfl) ?_
  intro p e s m args below meth c A ls Q hx hb hml hown hts hnm hK hD hA hAe hX hl hret H locs hP hS
  have hl : lv_has ls 12 [(0, .ref q.mo), (1, .int (iI (g : Int))), (2, .int (iI (ks.length : Int)))] := hl
  refine lv_lconst (v := 0) hx hb dMO_keepHalf_0 rfl ?_
  refine lv_lstore_n (lv' := [(3, .long 0), (0, .ref q.mo), (1, .int (iI (g : Int))), (2, .int (iI (ks.length : Int)))]) hx hb dMO_keepHalf_1 rfl hl (by decide) rfl (fun ls hl => ?_)
  refine lv_lconst (v := 0) hx hb dMO_keepHalf_2 rfl ?_
  refine lv_lstore (lv' := [(5, .long 0), (3, .long 0), (0, .ref q.mo), (1, .int (iI (g : Int))), (2, .int (iI (ks.length : Int)))]) hx hb dMO_keepHalf_3 hl (by decide) rfl (fun ls hl => ?_)
  refine lv_lconst (v := 0) hx hb dMO_keepHalf_5 rfl ?_
  refine lv_lstore (lv' := [(7, .long 0), (5, .long 0), (3, .long 0), (0, .ref q.mo), (1, .int (iI (g : Int))), (2, .int (iI (ks.length : Int)))]) hx hb dMO_keepHalf_6 hl (by decide) rfl (fun ls hl => ?_)
  refine lv_iconst (v := iI (0)) hx hb dMO_keepHalf_8 rfl ?_
  refine lv_istore (lv' := [(9, .int (iI 0)), (7, .long 0), (5, .long 0), (3, .long 0), (0, .ref q.mo), (1, .int (iI (g : Int))), (2, .int (iI (ks.length : Int)))]) hx hb dMO_keepHalf_9 hl (by decide) rfl (fun ls hl => ?_)
  have lp11 : ∀ (n9 : Nat) (k : Nat) (a b c9 : Int64), (k ≤ ks.length) → (wrd mk k a b c9) → (ks.length - k) < n9 → ∀ (H : Heap) (locs : List Loc), va_P D vwCl [(moC q cn gn ln), (q.xr, .inl (cI, 200, .inl (zf mk))), (q.xh, .inl (cI, 40, .inl (zf fh))), (q.xj, .inl (cJ, 15360, .inr (.inl fj)))] H → va_D A [(moC q cn gn ln), (q.xr, .inl (cI, 200, .inl (zf mk))), (q.xh, .inl (cI, 40, .inl (zf fh))), (q.xj, .inl (cJ, 15360, .inr (.inl fj)))] → va_S A s.heap H locs → ∀ (ls : Array Slot), lv_has ls 12 [(0, .ref q.mo), (1, .int (iI (g : Int))), (2, .int (iI (ks.length : Int))), (3, .long a), (5, .long b), (7, .long c9), (9, .int (iI (k : Int)))] → W p l e (headSpec wMO_keepHalf rmMO_keepHalf).room s m args below meth c H locs 0 0 Q (F0 m 11 ls []) := by
    intro n9
    induction n9 with
    | zero => intro k a b c9 hk hw hm; exact absurd hm (Nat.not_lt_zero _)
    | succ n9 ih11 =>
      intro k a b c9 hk hw hm11 H locs hP hD hS ls hl
      refine lv_iload hx hb dMO_keepHalf_11 (lv_at hl 6 rfl) ?_
      refine lv_iload_n hx hb dMO_keepHalf_13 rfl (lv_at hl 2 rfl) ?_
      refine lz_icmp_ge (tgt := 93) hx hb dMO_keepHalf_14 (by decide) (by omega) (by omega) (fun c_14 => ?_) (fun c_14 => ?_)
      · have hwn : wrd mk ks.length a b c9 := by rw [show ks.length = k by omega]; exact hw
        refine lv_aload_n hx hb dMO_keepHalf_93 rfl (lv_at hl 0 rfl) ?_
        refine va_get (D := D) (ci := 7) (v := .ref q.xh) (C := nMO) (T := fMO) (N := 24) hx hb hts iwMO hown hK hP 0 rfl rfl 13 (by decide) (hts _ (List.mem_cons_of_mem _ lkMO_40)) (fun _ h9 => h9) rfl dMO_keepHalf_94 ?_
        refine lv_iload_n hx hb dMO_keepHalf_97 rfl (lv_at hl 1 rfl) ?_
        refine lz_ialk hx hb hK hP 2 0 rfl rfl (z := (g : Int)) g rfl (by omega) dMO_keepHalf_98 ?_
        refine lz_as (x := fh g) (y := (h : Int)) (hh) ?_
        refine lv_istore (lv' := [(9, .int (iI (h : Int))), (0, .ref q.mo), (1, .int (iI (g : Int))), (2, .int (iI (ks.length : Int))), (3, .long a), (5, .long b), (7, .long c9)]) hx hb dMO_keepHalf_99 hl (by decide) rfl (fun ls hl => ?_)
        refine lv_sipush (v := iI (384)) hx hb dMO_keepHalf_101 (by decide) ?_
        refine lv_iload_n hx hb dMO_keepHalf_104 rfl (lv_at hl 2 rfl) ?_
        refine lz_imul hx hb dMO_keepHalf_105 ?_
        refine lv_istore (lv' := [(10, .int (iI (384 * (g : Int)))), (9, .int (iI (h : Int))), (0, .ref q.mo), (1, .int (iI (g : Int))), (2, .int (iI (ks.length : Int))), (3, .long a), (5, .long b), (7, .long c9)]) hx hb dMO_keepHalf_106 hl (by decide) rfl (fun ls hl => ?_)
        have lp108 : ∀ (n9 : Nat) (i : Nat) (f1 : Nat → Int64), (i ≤ h) → (shJ fj f1 (384 * g) h i) → (∀ k, i ≤ k → k < h → ah3 a b c9 (fj (384 * g + 3 * k)) (fj (384 * g + 3 * k + 1)) (fj (384 * g + 3 * k + 2))) → (i) < n9 → ∀ (H : Heap) (locs : List Loc), va_P D vwCl [(moC q cn gn ln), (q.xr, .inl (cI, 200, .inl (zf mk))), (q.xh, .inl (cI, 40, .inl (zf fh))), (q.xj, .inl (cJ, 15360, .inr (.inl f1)))] H → va_D A [(moC q cn gn ln), (q.xr, .inl (cI, 200, .inl (zf mk))), (q.xh, .inl (cI, 40, .inl (zf fh))), (q.xj, .inl (cJ, 15360, .inr (.inl f1)))] → va_S A s.heap H locs → ∀ (ls : Array Slot), lv_has ls 12 [(0, .ref q.mo), (1, .int (iI (g : Int))), (2, .int (iI (ks.length : Int))), (3, .long a), (5, .long b), (7, .long c9), (9, .int (iI (i : Int))), (10, .int (iI (384 * (g : Int))))] → W p l e (headSpec wMO_keepHalf rmMO_keepHalf).room s m args below meth c H locs 0 0 Q (F0 m 108 ls []) := by
          intro n9
          induction n9 with
          | zero => intro i f1 hi hS9 hA9 hm; exact absurd hm (Nat.not_lt_zero _)
          | succ n9 ih108 =>
            intro i f1 hi hS9 hA9 hm108 H locs hP hD hS ls hl
            refine lv_iload hx hb dMO_keepHalf_108 (lv_at hl 6 rfl) ?_
            refine lz_if_le (tgt := 187) hx hb dMO_keepHalf_110 (by decide) (by omega) (fun c_110 => ?_) (fun c_110 => ?_)
            · refine lv_aload_n hx hb dMO_keepHalf_187 rfl (lv_at hl 0 rfl) ?_
              refine va_get (D := D) (ci := 7) (v := .ref q.xj) (C := nMO) (T := fMO) (N := 24) hx hb hts iwMO hown hK hP 0 rfl rfl 15 (by decide) (hts _ (List.mem_cons_of_mem _ lkMO_47)) (fun _ h9 => h9) rfl dMO_keepHalf_188 ?_
              refine lv_iload hx hb dMO_keepHalf_191 (lv_at hl 7 rfl) ?_
              refine lv_iconst (v := iI (3)) hx hb dMO_keepHalf_193 rfl ?_
              refine lv_iload hx hb dMO_keepHalf_194 (lv_at hl 6 rfl) ?_
              refine lz_imul hx hb dMO_keepHalf_196 ?_
              refine lz_iadd hx hb dMO_keepHalf_197 ?_
              refine lv_lload_n hx hb dMO_keepHalf_198 rfl (lv_at hl 3 rfl) ?_
              refine lz_last hx hb hK hP hD hS 3 1 rfl rfl (z := (384 * (g : Int)) + (3 * (i : Int))) (x := a) (384 * g + 3 * i) (by omega) (by omega) dMO_keepHalf_199 (fun H locs hP hD hS => ?_)
              have hP : va_P D vwCl [(moC q cn gn ln), (q.xr, .inl (cI, 200, .inl (zf mk))), (q.xh, .inl (cI, 40, .inl (zf fh))), (q.xj, .inl (cJ, 15360, .inr (.inl (vp_updL f1 (384 * g + 3 * i) a))))] H := hP
              have hD : va_D A [(moC q cn gn ln), (q.xr, .inl (cI, 200, .inl (zf mk))), (q.xh, .inl (cI, 40, .inl (zf fh))), (q.xj, .inl (cJ, 15360, .inr (.inl (vp_updL f1 (384 * g + 3 * i) a))))] := hD
              refine lv_aload_n hx hb dMO_keepHalf_200 rfl (lv_at hl 0 rfl) ?_
              refine va_get (D := D) (ci := 7) (v := .ref q.xj) (C := nMO) (T := fMO) (N := 24) hx hb hts iwMO hown hK hP 0 rfl rfl 15 (by decide) (hts _ (List.mem_cons_of_mem _ lkMO_47)) (fun _ h9 => h9) rfl dMO_keepHalf_201 ?_
              refine lv_iload hx hb dMO_keepHalf_204 (lv_at hl 7 rfl) ?_
              refine lv_iconst (v := iI (3)) hx hb dMO_keepHalf_206 rfl ?_
              refine lv_iload hx hb dMO_keepHalf_207 (lv_at hl 6 rfl) ?_
              refine lz_imul hx hb dMO_keepHalf_209 ?_
              refine lz_iadd hx hb dMO_keepHalf_210 ?_
              refine lv_iconst (v := iI (1)) hx hb dMO_keepHalf_211 rfl ?_
              refine lz_iadd hx hb dMO_keepHalf_212 ?_
              refine lv_lload hx hb dMO_keepHalf_213 (lv_at hl 4 rfl) ?_
              refine lz_last hx hb hK hP hD hS 3 1 rfl rfl (z := ((384 * (g : Int)) + (3 * (i : Int))) + 1) (x := b) (384 * g + 3 * i + 1) (by omega) (by omega) dMO_keepHalf_215 (fun H locs hP hD hS => ?_)
              have hP : va_P D vwCl [(moC q cn gn ln), (q.xr, .inl (cI, 200, .inl (zf mk))), (q.xh, .inl (cI, 40, .inl (zf fh))), (q.xj, .inl (cJ, 15360, .inr (.inl (vp_updL (vp_updL f1 (384 * g + 3 * i) a) (384 * g + 3 * i + 1) b))))] H := hP
              have hD : va_D A [(moC q cn gn ln), (q.xr, .inl (cI, 200, .inl (zf mk))), (q.xh, .inl (cI, 40, .inl (zf fh))), (q.xj, .inl (cJ, 15360, .inr (.inl (vp_updL (vp_updL f1 (384 * g + 3 * i) a) (384 * g + 3 * i + 1) b))))] := hD
              refine lv_aload_n hx hb dMO_keepHalf_216 rfl (lv_at hl 0 rfl) ?_
              refine va_get (D := D) (ci := 7) (v := .ref q.xj) (C := nMO) (T := fMO) (N := 24) hx hb hts iwMO hown hK hP 0 rfl rfl 15 (by decide) (hts _ (List.mem_cons_of_mem _ lkMO_47)) (fun _ h9 => h9) rfl dMO_keepHalf_217 ?_
              refine lv_iload hx hb dMO_keepHalf_220 (lv_at hl 7 rfl) ?_
              refine lv_iconst (v := iI (3)) hx hb dMO_keepHalf_222 rfl ?_
              refine lv_iload hx hb dMO_keepHalf_223 (lv_at hl 6 rfl) ?_
              refine lz_imul hx hb dMO_keepHalf_225 ?_
              refine lz_iadd hx hb dMO_keepHalf_226 ?_
              refine lv_iconst (v := iI (2)) hx hb dMO_keepHalf_227 rfl ?_
              refine lz_iadd hx hb dMO_keepHalf_228 ?_
              refine lv_lload hx hb dMO_keepHalf_229 (lv_at hl 5 rfl) ?_
              refine lz_last hx hb hK hP hD hS 3 1 rfl rfl (z := ((384 * (g : Int)) + (3 * (i : Int))) + 2) (x := c9) (384 * g + 3 * i + 2) (by omega) (by omega) dMO_keepHalf_231 (fun H locs hP hD hS => ?_)
              have hP : va_P D vwCl [(moC q cn gn ln), (q.xr, .inl (cI, 200, .inl (zf mk))), (q.xh, .inl (cI, 40, .inl (zf fh))), (q.xj, .inl (cJ, 15360, .inr (.inl (vp_updL (vp_updL (vp_updL f1 (384 * g + 3 * i) a) (384 * g + 3 * i + 1) b) (384 * g + 3 * i + 2) c9))))] H := hP
              have hD : va_D A [(moC q cn gn ln), (q.xr, .inl (cI, 200, .inl (zf mk))), (q.xh, .inl (cI, 40, .inl (zf fh))), (q.xj, .inl (cJ, 15360, .inr (.inl (vp_updL (vp_updL (vp_updL f1 (384 * g + 3 * i) a) (384 * g + 3 * i + 1) b) (384 * g + 3 * i + 2) c9))))] := hD
              refine lv_aload_n hx hb dMO_keepHalf_232 rfl (lv_at hl 0 rfl) ?_
              refine va_get (D := D) (ci := 7) (v := .ref q.xh) (C := nMO) (T := fMO) (N := 24) hx hb hts iwMO hown hK hP 0 rfl rfl 13 (by decide) (hts _ (List.mem_cons_of_mem _ lkMO_40)) (fun _ h9 => h9) rfl dMO_keepHalf_233 ?_
              refine lv_iload_n hx hb dMO_keepHalf_236 rfl (lv_at hl 1 rfl) ?_
              refine lv_dup2_11 hx hb dMO_keepHalf_237 rfl rfl ?_
              refine lz_ialk hx hb hK hP 2 0 rfl rfl (z := (g : Int)) g rfl (by omega) dMO_keepHalf_238 ?_
              refine lz_as (x := fh g) (y := (h : Int)) (hh) ?_
              refine lv_iconst (v := iI (1)) hx hb dMO_keepHalf_239 rfl ?_
              refine lz_iadd hx hb dMO_keepHalf_240 ?_
              refine lz_iask hx hb hK hP hD hS 2 0 rfl rfl (z := (g : Int)) (v := (h : Int) + 1) g rfl (by omega) dMO_keepHalf_241 (fun H locs hP hD hS => ?_)
              have hP : va_P D vwCl [(moC q cn gn ln), (q.xr, .inl (cI, 200, .inl (zf mk))), (q.xh, .inl (cI, 40, .inl (zf (zu fh g ((h : Int) + 1))))), (q.xj, .inl (cJ, 15360, .inr (.inl (vp_updL (vp_updL (vp_updL f1 (384 * g + 3 * i) a) (384 * g + 3 * i + 1) b) (384 * g + 3 * i + 2) c9))))] H := hP
              have hD : va_D A [(moC q cn gn ln), (q.xr, .inl (cI, 200, .inl (zf mk))), (q.xh, .inl (cI, 40, .inl (zf (zu fh g ((h : Int) + 1))))), (q.xj, .inl (cJ, 15360, .inr (.inl (vp_updL (vp_updL (vp_updL f1 (384 * g + 3 * i) a) (384 * g + 3 * i + 1) b) (384 * g + 3 * i + 2) c9))))] := hD
              exact hret H locs 0 0 242 ls (vp_updL (vp_updL (vp_updL f1 (384 * g + 3 * i) a) (384 * g + 3 * i + 1) b) (384 * g + 3 * i + 2) c9) ⟨i, a, b, c9, hwn, insJ.of hS9 hi (by omega) hA9 (by first | exact Or.inl (by omega) | exact Or.inr hah)⟩ (hP.sub [0, 1, 2, 3] rfl) (hD.sub [0, 1, 2, 3] (by decide) rfl) hS (Nat.zero_le _) (Nat.zero_le _) dMO_keepHalf_242
            · refine lv_aload_n hx hb dMO_keepHalf_113 rfl (lv_at hl 0 rfl) ?_
              refine lv_lload_n hx hb dMO_keepHalf_114 rfl (lv_at hl 3 rfl) ?_
              refine lv_lload hx hb dMO_keepHalf_115 (lv_at hl 4 rfl) ?_
              refine lv_lload hx hb dMO_keepHalf_117 (lv_at hl 5 rfl) ?_
              refine lv_iload hx hb dMO_keepHalf_119 (lv_at hl 7 rfl) ?_
              refine lv_iconst (v := iI (3)) hx hb dMO_keepHalf_121 rfl ?_
              refine lv_iload hx hb dMO_keepHalf_122 (lv_at hl 6 rfl) ?_
              refine lv_iconst (v := iI (1)) hx hb dMO_keepHalf_124 rfl ?_
              refine lz_isub hx hb dMO_keepHalf_125 ?_
              refine lz_imul hx hb dMO_keepHalf_126 ?_
              refine lz_iadd hx hb dMO_keepHalf_127 ?_
              refine lz_as (x := (384 * (g : Int)) + (3 * ((i : Int) - 1))) (y := ((384 * g + 3 * (i - 1) : Nat) : Int)) (by omega) ?_
              refine zRI.back ((va_runV (As := [.long a, .long b, .long c9, .int (iI ((384 * g + 3 * (i - 1) : Nat) : Int))]) (rest := []) ⟨hx, hb, hml, hown, hts⟩ (mMO_comesAhead l D cI cJ cZ q cn gn ln a b c9 (384 * g + 3 * (i - 1)) f1 (by omega)) (cwV 4 hts (gT1 lkMO_143 (gT1 imMO_comesAhead (gT1 seMO_comesAhead (gT1 iniMO (gTW kcMO_comesAhead))))) rfl rfl rfl (by decide +kernel) ⟨Nat.le_of_ble_eq_true rfl, Nat.le_of_ble_eq_true rfl⟩) ⟨zRd_blind, va_recv hK hP (ci := 7) (q0 := 0) rfl rfl, zRd.at (wc := [(moC q cn gn ln), (q.xj, .inl (cJ, 15360, .inr (.inl f1)))]) hK (hP.sub (ws' := [(moC q cn gn ln), (q.xj, .inl (cJ, 15360, .inr (.inl f1)))]) [0, 3] rfl) (stF.now hX hS)⟩ rfl rfl hl.1 rfl (lv_room (Nat.le_of_ble_eq_true rfl)) dMO_keepHalf_128 ⟨Nat.le_of_ble_eq_true rfl, Nat.le_of_ble_eq_true rfl⟩).run) (fun z_128 q_128 => ?_)
              rw [hS9.1 _ (by omega), hS9.1 _ (by omega), hS9.1 _ (by omega)] at q_128
              refine lz_if_eq (tgt := 187) hx hb dMO_keepHalf_131 (by decide) (by rcases q_128 with ⟨q9, _⟩ | ⟨q9, _⟩ <;> omega) (fun c_131 => ?_) (fun c_131 => ?_)
              · have hah : ¬ ah3 a b c9 (fj (384 * g + 3 * (i - 1))) (fj (384 * g + 3 * (i - 1) + 1)) (fj (384 * g + 3 * (i - 1) + 2)) := by rcases q_128 with ⟨q9, _⟩ | ⟨_, q9⟩ <;> first | exact q9 | omega
                refine lv_aload_n hx hb dMO_keepHalf_187 rfl (lv_at hl 0 rfl) ?_
                refine va_get (D := D) (ci := 7) (v := .ref q.xj) (C := nMO) (T := fMO) (N := 24) hx hb hts iwMO hown hK hP 0 rfl rfl 15 (by decide) (hts _ (List.mem_cons_of_mem _ lkMO_47)) (fun _ h9 => h9) rfl dMO_keepHalf_188 ?_
                refine lv_iload hx hb dMO_keepHalf_191 (lv_at hl 7 rfl) ?_
                refine lv_iconst (v := iI (3)) hx hb dMO_keepHalf_193 rfl ?_
                refine lv_iload hx hb dMO_keepHalf_194 (lv_at hl 6 rfl) ?_
                refine lz_imul hx hb dMO_keepHalf_196 ?_
                refine lz_iadd hx hb dMO_keepHalf_197 ?_
                refine lv_lload_n hx hb dMO_keepHalf_198 rfl (lv_at hl 3 rfl) ?_
                refine lz_last hx hb hK hP hD hS 3 1 rfl rfl (z := (384 * (g : Int)) + (3 * (i : Int))) (x := a) (384 * g + 3 * i) (by omega) (by omega) dMO_keepHalf_199 (fun H locs hP hD hS => ?_)
                have hP : va_P D vwCl [(moC q cn gn ln), (q.xr, .inl (cI, 200, .inl (zf mk))), (q.xh, .inl (cI, 40, .inl (zf fh))), (q.xj, .inl (cJ, 15360, .inr (.inl (vp_updL f1 (384 * g + 3 * i) a))))] H := hP
                have hD : va_D A [(moC q cn gn ln), (q.xr, .inl (cI, 200, .inl (zf mk))), (q.xh, .inl (cI, 40, .inl (zf fh))), (q.xj, .inl (cJ, 15360, .inr (.inl (vp_updL f1 (384 * g + 3 * i) a))))] := hD
                refine lv_aload_n hx hb dMO_keepHalf_200 rfl (lv_at hl 0 rfl) ?_
                refine va_get (D := D) (ci := 7) (v := .ref q.xj) (C := nMO) (T := fMO) (N := 24) hx hb hts iwMO hown hK hP 0 rfl rfl 15 (by decide) (hts _ (List.mem_cons_of_mem _ lkMO_47)) (fun _ h9 => h9) rfl dMO_keepHalf_201 ?_
                refine lv_iload hx hb dMO_keepHalf_204 (lv_at hl 7 rfl) ?_
                refine lv_iconst (v := iI (3)) hx hb dMO_keepHalf_206 rfl ?_
                refine lv_iload hx hb dMO_keepHalf_207 (lv_at hl 6 rfl) ?_
                refine lz_imul hx hb dMO_keepHalf_209 ?_
                refine lz_iadd hx hb dMO_keepHalf_210 ?_
                refine lv_iconst (v := iI (1)) hx hb dMO_keepHalf_211 rfl ?_
                refine lz_iadd hx hb dMO_keepHalf_212 ?_
                refine lv_lload hx hb dMO_keepHalf_213 (lv_at hl 4 rfl) ?_
                refine lz_last hx hb hK hP hD hS 3 1 rfl rfl (z := ((384 * (g : Int)) + (3 * (i : Int))) + 1) (x := b) (384 * g + 3 * i + 1) (by omega) (by omega) dMO_keepHalf_215 (fun H locs hP hD hS => ?_)
                have hP : va_P D vwCl [(moC q cn gn ln), (q.xr, .inl (cI, 200, .inl (zf mk))), (q.xh, .inl (cI, 40, .inl (zf fh))), (q.xj, .inl (cJ, 15360, .inr (.inl (vp_updL (vp_updL f1 (384 * g + 3 * i) a) (384 * g + 3 * i + 1) b))))] H := hP
                have hD : va_D A [(moC q cn gn ln), (q.xr, .inl (cI, 200, .inl (zf mk))), (q.xh, .inl (cI, 40, .inl (zf fh))), (q.xj, .inl (cJ, 15360, .inr (.inl (vp_updL (vp_updL f1 (384 * g + 3 * i) a) (384 * g + 3 * i + 1) b))))] := hD
                refine lv_aload_n hx hb dMO_keepHalf_216 rfl (lv_at hl 0 rfl) ?_
                refine va_get (D := D) (ci := 7) (v := .ref q.xj) (C := nMO) (T := fMO) (N := 24) hx hb hts iwMO hown hK hP 0 rfl rfl 15 (by decide) (hts _ (List.mem_cons_of_mem _ lkMO_47)) (fun _ h9 => h9) rfl dMO_keepHalf_217 ?_
                refine lv_iload hx hb dMO_keepHalf_220 (lv_at hl 7 rfl) ?_
                refine lv_iconst (v := iI (3)) hx hb dMO_keepHalf_222 rfl ?_
                refine lv_iload hx hb dMO_keepHalf_223 (lv_at hl 6 rfl) ?_
                refine lz_imul hx hb dMO_keepHalf_225 ?_
                refine lz_iadd hx hb dMO_keepHalf_226 ?_
                refine lv_iconst (v := iI (2)) hx hb dMO_keepHalf_227 rfl ?_
                refine lz_iadd hx hb dMO_keepHalf_228 ?_
                refine lv_lload hx hb dMO_keepHalf_229 (lv_at hl 5 rfl) ?_
                refine lz_last hx hb hK hP hD hS 3 1 rfl rfl (z := ((384 * (g : Int)) + (3 * (i : Int))) + 2) (x := c9) (384 * g + 3 * i + 2) (by omega) (by omega) dMO_keepHalf_231 (fun H locs hP hD hS => ?_)
                have hP : va_P D vwCl [(moC q cn gn ln), (q.xr, .inl (cI, 200, .inl (zf mk))), (q.xh, .inl (cI, 40, .inl (zf fh))), (q.xj, .inl (cJ, 15360, .inr (.inl (vp_updL (vp_updL (vp_updL f1 (384 * g + 3 * i) a) (384 * g + 3 * i + 1) b) (384 * g + 3 * i + 2) c9))))] H := hP
                have hD : va_D A [(moC q cn gn ln), (q.xr, .inl (cI, 200, .inl (zf mk))), (q.xh, .inl (cI, 40, .inl (zf fh))), (q.xj, .inl (cJ, 15360, .inr (.inl (vp_updL (vp_updL (vp_updL f1 (384 * g + 3 * i) a) (384 * g + 3 * i + 1) b) (384 * g + 3 * i + 2) c9))))] := hD
                refine lv_aload_n hx hb dMO_keepHalf_232 rfl (lv_at hl 0 rfl) ?_
                refine va_get (D := D) (ci := 7) (v := .ref q.xh) (C := nMO) (T := fMO) (N := 24) hx hb hts iwMO hown hK hP 0 rfl rfl 13 (by decide) (hts _ (List.mem_cons_of_mem _ lkMO_40)) (fun _ h9 => h9) rfl dMO_keepHalf_233 ?_
                refine lv_iload_n hx hb dMO_keepHalf_236 rfl (lv_at hl 1 rfl) ?_
                refine lv_dup2_11 hx hb dMO_keepHalf_237 rfl rfl ?_
                refine lz_ialk hx hb hK hP 2 0 rfl rfl (z := (g : Int)) g rfl (by omega) dMO_keepHalf_238 ?_
                refine lz_as (x := fh g) (y := (h : Int)) (hh) ?_
                refine lv_iconst (v := iI (1)) hx hb dMO_keepHalf_239 rfl ?_
                refine lz_iadd hx hb dMO_keepHalf_240 ?_
                refine lz_iask hx hb hK hP hD hS 2 0 rfl rfl (z := (g : Int)) (v := (h : Int) + 1) g rfl (by omega) dMO_keepHalf_241 (fun H locs hP hD hS => ?_)
                have hP : va_P D vwCl [(moC q cn gn ln), (q.xr, .inl (cI, 200, .inl (zf mk))), (q.xh, .inl (cI, 40, .inl (zf (zu fh g ((h : Int) + 1))))), (q.xj, .inl (cJ, 15360, .inr (.inl (vp_updL (vp_updL (vp_updL f1 (384 * g + 3 * i) a) (384 * g + 3 * i + 1) b) (384 * g + 3 * i + 2) c9))))] H := hP
                have hD : va_D A [(moC q cn gn ln), (q.xr, .inl (cI, 200, .inl (zf mk))), (q.xh, .inl (cI, 40, .inl (zf (zu fh g ((h : Int) + 1))))), (q.xj, .inl (cJ, 15360, .inr (.inl (vp_updL (vp_updL (vp_updL f1 (384 * g + 3 * i) a) (384 * g + 3 * i + 1) b) (384 * g + 3 * i + 2) c9))))] := hD
                exact hret H locs 0 0 242 ls (vp_updL (vp_updL (vp_updL f1 (384 * g + 3 * i) a) (384 * g + 3 * i + 1) b) (384 * g + 3 * i + 2) c9) ⟨i, a, b, c9, hwn, insJ.of hS9 hi (by omega) hA9 (by first | exact Or.inl (by omega) | exact Or.inr hah)⟩ (hP.sub [0, 1, 2, 3] rfl) (hD.sub [0, 1, 2, 3] (by decide) rfl) hS (Nat.zero_le _) (Nat.zero_le _) dMO_keepHalf_242
              · have hah : ah3 a b c9 (fj (384 * g + 3 * (i - 1))) (fj (384 * g + 3 * (i - 1) + 1)) (fj (384 * g + 3 * (i - 1) + 2)) := by rcases q_128 with ⟨_, q9⟩ | ⟨q9, _⟩ <;> first | exact q9 | omega
                refine lv_iconst (v := iI (0)) hx hb dMO_keepHalf_134 rfl ?_
                refine lv_istore (lv' := [(11, .int (iI 0)), (0, .ref q.mo), (1, .int (iI (g : Int))), (2, .int (iI (ks.length : Int))), (3, .long a), (5, .long b), (7, .long c9), (9, .int (iI (i : Int))), (10, .int (iI (384 * (g : Int))))]) hx hb dMO_keepHalf_135 hl (by decide) rfl (fun ls hl => ?_)
                have lp137 : ∀ (n9 : Nat) (z9 : Nat) (f2 : Nat → Int64), (z9 ≤ 3) → (∀ z, z < z9 → f2 (384 * g + 3 * i + z) = f1 (384 * g + 3 * (i - 1) + z)) → (∀ t, (t < 384 * g + 3 * i ∨ 384 * g + 3 * i + 3 ≤ t) → f2 t = f1 t) → (3 - z9) < n9 → ∀ (H : Heap) (locs : List Loc), va_P D vwCl [(moC q cn gn ln), (q.xr, .inl (cI, 200, .inl (zf mk))), (q.xh, .inl (cI, 40, .inl (zf fh))), (q.xj, .inl (cJ, 15360, .inr (.inl f2)))] H → va_D A [(moC q cn gn ln), (q.xr, .inl (cI, 200, .inl (zf mk))), (q.xh, .inl (cI, 40, .inl (zf fh))), (q.xj, .inl (cJ, 15360, .inr (.inl f2)))] → va_S A s.heap H locs → ∀ (ls : Array Slot), lv_has ls 12 [(0, .ref q.mo), (1, .int (iI (g : Int))), (2, .int (iI (ks.length : Int))), (3, .long a), (5, .long b), (7, .long c9), (9, .int (iI (i : Int))), (10, .int (iI (384 * (g : Int)))), (11, .int (iI (z9 : Int)))] → W p l e (headSpec wMO_keepHalf rmMO_keepHalf).room s m args below meth c H locs 0 0 Q (F0 m 137 ls []) := by
                  intro n9
                  induction n9 with
                  | zero => intro z9 f2 hz9 k1 k2 hm; exact absurd hm (Nat.not_lt_zero _)
                  | succ n9 ih137 =>
                    intro z9 f2 hz9 k1 k2 hm137 H locs hP hD hS ls hl
                    refine lv_iload hx hb dMO_keepHalf_137 (lv_at hl 8 rfl) ?_
                    refine lv_iconst (v := iI (3)) hx hb dMO_keepHalf_139 rfl ?_
                    refine lz_icmp_ge (tgt := 181) hx hb dMO_keepHalf_140 (by decide) (by omega) (by omega) (fun c_140 => ?_) (fun c_140 => ?_)
                    · refine lz_iinc (lv' := [(9, .int (iI ((i : Int) + (-1)))), (0, .ref q.mo), (1, .int (iI (g : Int))), (2, .int (iI (ks.length : Int))), (3, .long a), (5, .long b), (7, .long c9), (10, .int (iI (384 * (g : Int)))), (11, .int (iI (z9 : Int)))]) hx hb dMO_keepHalf_181 hl (k := 6) rfl (by decide) rfl (fun ls hl => ?_)
                      refine lv_goto (tgt := 108) hx hb dMO_keepHalf_184 (by decide) ?_
                      rw [show (i : Int) + (-1) = ((i - 1 : Nat) : Int) from by omega] at hl
                      exact ih108 (i - 1) f2 (by omega) (hS9.next (by omega) hi (by omega) (fun z9 h9 => k1 z9 (by omega)) (fun t h9 => k2 t (by omega))) (fun k9 a9 b9 => by
                          by_cases e9 : k9 = i - 1
                          · rw [e9]; exact hah
                          · exact hA9 k9 (by omega) b9) (by omega) _ _ (hP.sub [0, 1, 2, 3] rfl) (hD.sub [0, 1, 2, 3] (by decide) rfl) hS _ (lv_sub hl [1, 2, 3, 4, 5, 6, 0, 7] rfl)
                    · refine lv_aload_n hx hb dMO_keepHalf_143 rfl (lv_at hl 0 rfl) ?_
                      refine va_get (D := D) (ci := 7) (v := .ref q.xj) (C := nMO) (T := fMO) (N := 24) hx hb hts iwMO hown hK hP 0 rfl rfl 15 (by decide) (hts _ (List.mem_cons_of_mem _ lkMO_47)) (fun _ h9 => h9) rfl dMO_keepHalf_144 ?_
                      refine lv_iload hx hb dMO_keepHalf_147 (lv_at hl 7 rfl) ?_
                      refine lv_iconst (v := iI (3)) hx hb dMO_keepHalf_149 rfl ?_
                      refine lv_iload hx hb dMO_keepHalf_150 (lv_at hl 6 rfl) ?_
                      refine lz_imul hx hb dMO_keepHalf_152 ?_
                      refine lz_iadd hx hb dMO_keepHalf_153 ?_
                      refine lv_iload hx hb dMO_keepHalf_154 (lv_at hl 8 rfl) ?_
                      refine lz_iadd hx hb dMO_keepHalf_156 ?_
                      refine lv_aload_n hx hb dMO_keepHalf_157 rfl (lv_at hl 0 rfl) ?_
                      refine va_get (D := D) (ci := 7) (v := .ref q.xj) (C := nMO) (T := fMO) (N := 24) hx hb hts iwMO hown hK hP 0 rfl rfl 15 (by decide) (hts _ (List.mem_cons_of_mem _ lkMO_47)) (fun _ h9 => h9) rfl dMO_keepHalf_158 ?_
                      refine lv_iload hx hb dMO_keepHalf_161 (lv_at hl 7 rfl) ?_
                      refine lv_iconst (v := iI (3)) hx hb dMO_keepHalf_163 rfl ?_
                      refine lv_iload hx hb dMO_keepHalf_164 (lv_at hl 6 rfl) ?_
                      refine lv_iconst (v := iI (1)) hx hb dMO_keepHalf_166 rfl ?_
                      refine lz_isub hx hb dMO_keepHalf_167 ?_
                      refine lz_imul hx hb dMO_keepHalf_168 ?_
                      refine lz_iadd hx hb dMO_keepHalf_169 ?_
                      refine lv_iload hx hb dMO_keepHalf_170 (lv_at hl 8 rfl) ?_
                      refine lz_iadd hx hb dMO_keepHalf_172 ?_
                      refine lz_lald hx hb hK hP 3 1 rfl rfl (z := ((384 * (g : Int)) + (3 * ((i : Int) - 1))) + (z9 : Int)) (384 * g + 3 * (i - 1) + z9) (by omega) (by omega) dMO_keepHalf_173 ?_
                      refine lz_last hx hb hK hP hD hS 3 1 rfl rfl (z := ((384 * (g : Int)) + (3 * (i : Int))) + (z9 : Int)) (x := f2 (384 * g + 3 * (i - 1) + z9)) (384 * g + 3 * i + z9) (by omega) (by omega) dMO_keepHalf_174 (fun H locs hP hD hS => ?_)
                      have hP : va_P D vwCl [(moC q cn gn ln), (q.xr, .inl (cI, 200, .inl (zf mk))), (q.xh, .inl (cI, 40, .inl (zf fh))), (q.xj, .inl (cJ, 15360, .inr (.inl (vp_updL f2 (384 * g + 3 * i + z9) (f2 (384 * g + 3 * (i - 1) + z9))))))] H := hP
                      have hD : va_D A [(moC q cn gn ln), (q.xr, .inl (cI, 200, .inl (zf mk))), (q.xh, .inl (cI, 40, .inl (zf fh))), (q.xj, .inl (cJ, 15360, .inr (.inl (vp_updL f2 (384 * g + 3 * i + z9) (f2 (384 * g + 3 * (i - 1) + z9))))))] := hD
                      refine lz_iinc (lv' := [(11, .int (iI ((z9 : Int) + 1))), (0, .ref q.mo), (1, .int (iI (g : Int))), (2, .int (iI (ks.length : Int))), (3, .long a), (5, .long b), (7, .long c9), (9, .int (iI (i : Int))), (10, .int (iI (384 * (g : Int))))]) hx hb dMO_keepHalf_175 hl (k := 8) rfl (by decide) rfl (fun ls hl => ?_)
                      refine lv_goto (tgt := 137) hx hb dMO_keepHalf_178 (by decide) ?_
                      exact ih137 (z9 + 1) (vp_updL f2 (384 * g + 3 * i + z9) (f2 (384 * g + 3 * (i - 1) + z9))) (by omega) (fun z8 h9 => by
                          by_cases e9 : z8 = z9
                          · rw [e9, upJ_s]; exact k2 _ (by omega)
                          · rw [upJ_n (by omega)]; exact k1 z8 (by omega)) (fun t h9 => by rw [upJ_n (by omega)]; exact k2 t h9) (by omega) _ _ (hP.sub [0, 1, 2, 3] rfl) (hD.sub [0, 1, 2, 3] (by decide) rfl) hS _ (lv_sub hl [1, 2, 3, 4, 5, 6, 7, 8, 0] rfl)
                exact lp137 _ 0 f1 (Nat.zero_le _) (fun z h9 => absurd h9 (Nat.not_lt_zero _)) (fun t _ => rfl) (Nat.lt_succ_self _) _ _ (hP.sub [0, 1, 2, 3] rfl) (hD.sub [0, 1, 2, 3] (by decide) rfl) hS _ (lv_sub hl [1, 2, 3, 4, 5, 6, 7, 8, 0] rfl)
        exact lp108 _ h fj (Nat.le_refl _) (shJ.start fj _ h) (fun k9 a9 b9 => by omega) (Nat.lt_succ_self _) _ _ (hP.sub [0, 1, 2, 3] rfl) (hD.sub [0, 1, 2, 3] (by decide) rfl) hS _ (lv_sub hl [2, 3, 4, 5, 6, 7, 1, 0] rfl)
      · refine lv_aload_n hx hb dMO_keepHalf_17 rfl (lv_at hl 0 rfl) ?_
        refine va_get (D := D) (ci := 7) (v := .ref q.xr) (C := nMO) (T := fMO) (N := 24) hx hb hts iwMO hown hK hP 0 rfl rfl 17 (by decide) (hts _ (List.mem_cons_of_mem _ lkMO_55)) (fun _ h9 => h9) rfl dMO_keepHalf_18 ?_
        refine lv_iload hx hb dMO_keepHalf_21 (lv_at hl 6 rfl) ?_
        refine lz_ialk hx hb hK hP 1 0 rfl rfl (z := (k : Int)) k rfl (by omega) dMO_keepHalf_23 ?_
        refine lv_iconst (v := iI (1)) hx hb dMO_keepHalf_24 rfl ?_
        refine lz_icmp_eq (tgt := 31) hx hb dMO_keepHalf_25 (by decide) (by have := hmk k (by omega); omega) (by omega) (fun c_25 => ?_) (fun c_25 => ?_)
        · refine lv_iload hx hb dMO_keepHalf_31 (lv_at hl 6 rfl) ?_
          refine lv_bipush (v := iI (64)) hx hb dMO_keepHalf_33 (by decide) ?_
          refine lz_icmp_ge (tgt := 51) hx hb dMO_keepHalf_35 (by decide) (by omega) (by omega) (fun c_35 => ?_) (fun c_35 => ?_)
          · refine lv_iload hx hb dMO_keepHalf_51 (lv_at hl 6 rfl) ?_
            refine lv_sipush (v := iI (128)) hx hb dMO_keepHalf_53 (by decide) ?_
            refine lz_icmp_ge (tgt := 74) hx hb dMO_keepHalf_56 (by decide) (by omega) (by omega) (fun c_56 => ?_) (fun c_56 => ?_)
            · refine lv_lload hx hb dMO_keepHalf_74 (lv_at hl 5 rfl) ?_
              refine lv_lconst (v := 1) hx hb dMO_keepHalf_76 rfl ?_
              refine lv_sipush (v := iI (191)) hx hb dMO_keepHalf_77 (by decide) ?_
              refine lv_iload hx hb dMO_keepHalf_80 (lv_at hl 6 rfl) ?_
              refine lz_isub hx hb dMO_keepHalf_82 ?_
              refine lv_lshl (v := b1 (191 - k)) hx hb dMO_keepHalf_83 (by rw [show (191 : Int) - (k : Int) = ((191 - k : Nat) : Int) by omega]; exact shl_b1 _ (by omega)) ?_
              refine lv_lor hx hb dMO_keepHalf_84 ?_
              refine lv_lstore (lv' := [(7, .long (c9 ||| (b1 (191 - k)))), (0, .ref q.mo), (1, .int (iI (g : Int))), (2, .int (iI (ks.length : Int))), (3, .long a), (5, .long b), (9, .int (iI (k : Int)))]) hx hb dMO_keepHalf_85 hl (by decide) rfl (fun ls hl => ?_)
              refine lz_iinc (lv' := [(9, .int (iI ((k : Int) + 1))), (7, .long (c9 ||| (b1 (191 - k)))), (0, .ref q.mo), (1, .int (iI (g : Int))), (2, .int (iI (ks.length : Int))), (3, .long a), (5, .long b)]) hx hb dMO_keepHalf_87 hl (k := 6) rfl (by decide) rfl (fun ls hl => ?_)
              refine lv_goto (tgt := 11) hx hb dMO_keepHalf_90 (by decide) ?_
              exact ih11 (k + 1) a b (c9 ||| (b1 (191 - k))) (by omega) (hw.yes c_25 (bt3_c (by omega) (by omega))) (by omega) _ _ (hP.sub [0, 1, 2, 3] rfl) (hD.sub [0, 1, 2, 3] (by decide) rfl) hS _ (lv_sub hl [2, 3, 4, 5, 6, 1, 0] rfl)
            · refine lv_lload hx hb dMO_keepHalf_59 (lv_at hl 4 rfl) ?_
              refine lv_lconst (v := 1) hx hb dMO_keepHalf_61 rfl ?_
              refine lv_bipush (v := iI (127)) hx hb dMO_keepHalf_62 (by decide) ?_
              refine lv_iload hx hb dMO_keepHalf_64 (lv_at hl 6 rfl) ?_
              refine lz_isub hx hb dMO_keepHalf_66 ?_
              refine lv_lshl (v := b1 (127 - k)) hx hb dMO_keepHalf_67 (by rw [show (127 : Int) - (k : Int) = ((127 - k : Nat) : Int) by omega]; exact shl_b1 _ (by omega)) ?_
              refine lv_lor hx hb dMO_keepHalf_68 ?_
              refine lv_lstore (lv' := [(5, .long (b ||| (b1 (127 - k)))), (0, .ref q.mo), (1, .int (iI (g : Int))), (2, .int (iI (ks.length : Int))), (3, .long a), (7, .long c9), (9, .int (iI (k : Int)))]) hx hb dMO_keepHalf_69 hl (by decide) rfl (fun ls hl => ?_)
              refine lv_goto (tgt := 87) hx hb dMO_keepHalf_71 (by decide) ?_
              refine lz_iinc (lv' := [(9, .int (iI ((k : Int) + 1))), (5, .long (b ||| (b1 (127 - k)))), (0, .ref q.mo), (1, .int (iI (g : Int))), (2, .int (iI (ks.length : Int))), (3, .long a), (7, .long c9)]) hx hb dMO_keepHalf_87 hl (k := 6) rfl (by decide) rfl (fun ls hl => ?_)
              refine lv_goto (tgt := 11) hx hb dMO_keepHalf_90 (by decide) ?_
              exact ih11 (k + 1) a (b ||| (b1 (127 - k))) c9 (by omega) (hw.yes c_25 (bt3_b (by omega) (by omega))) (by omega) _ _ (hP.sub [0, 1, 2, 3] rfl) (hD.sub [0, 1, 2, 3] (by decide) rfl) hS _ (lv_sub hl [2, 3, 4, 5, 1, 6, 0] rfl)
          · refine lv_lload_n hx hb dMO_keepHalf_38 rfl (lv_at hl 3 rfl) ?_
            refine lv_lconst (v := 1) hx hb dMO_keepHalf_39 rfl ?_
            refine lv_bipush (v := iI (63)) hx hb dMO_keepHalf_40 (by decide) ?_
            refine lv_iload hx hb dMO_keepHalf_42 (lv_at hl 6 rfl) ?_
            refine lz_isub hx hb dMO_keepHalf_44 ?_
            refine lv_lshl (v := b1 (63 - k)) hx hb dMO_keepHalf_45 (by rw [show (63 : Int) - (k : Int) = ((63 - k : Nat) : Int) by omega]; exact shl_b1 _ (by omega)) ?_
            refine lv_lor hx hb dMO_keepHalf_46 ?_
            refine lv_lstore_n (lv' := [(3, .long (a ||| (b1 (63 - k)))), (0, .ref q.mo), (1, .int (iI (g : Int))), (2, .int (iI (ks.length : Int))), (5, .long b), (7, .long c9), (9, .int (iI (k : Int)))]) hx hb dMO_keepHalf_47 rfl hl (by decide) rfl (fun ls hl => ?_)
            refine lv_goto (tgt := 87) hx hb dMO_keepHalf_48 (by decide) ?_
            refine lz_iinc (lv' := [(9, .int (iI ((k : Int) + 1))), (3, .long (a ||| (b1 (63 - k)))), (0, .ref q.mo), (1, .int (iI (g : Int))), (2, .int (iI (ks.length : Int))), (5, .long b), (7, .long c9)]) hx hb dMO_keepHalf_87 hl (k := 6) rfl (by decide) rfl (fun ls hl => ?_)
            refine lv_goto (tgt := 11) hx hb dMO_keepHalf_90 (by decide) ?_
            exact ih11 (k + 1) (a ||| (b1 (63 - k))) b c9 (by omega) (hw.yes c_25 (bt3_a (by omega))) (by omega) _ _ (hP.sub [0, 1, 2, 3] rfl) (hD.sub [0, 1, 2, 3] (by decide) rfl) hS _ (lv_sub hl [2, 3, 4, 1, 5, 6, 0] rfl)
        · refine lv_goto (tgt := 87) hx hb dMO_keepHalf_28 (by decide) ?_
          refine lz_iinc (lv' := [(9, .int (iI ((k : Int) + 1))), (0, .ref q.mo), (1, .int (iI (g : Int))), (2, .int (iI (ks.length : Int))), (3, .long a), (5, .long b), (7, .long c9)]) hx hb dMO_keepHalf_87 hl (k := 6) rfl (by decide) rfl (fun ls hl => ?_)
          refine lv_goto (tgt := 11) hx hb dMO_keepHalf_90 (by decide) ?_
          exact ih11 (k + 1) a b c9 (by omega) (hw.no c_25) (by omega) _ _ (hP.sub [0, 1, 2, 3] rfl) (hD.sub [0, 1, 2, 3] (by decide) rfl) hS _ (lv_sub hl [1, 2, 3, 4, 5, 6, 0] rfl)
  exact lp11 _ 0 0 0 0 (Nat.zero_le _) (wrd.start mk) (Nat.lt_succ_self _) _ _ (hP.sub [0, 1, 2, 3] rfl) (hD.sub [0, 1, 2, 3] (by decide) rfl) hS _ (lv_sub hl [4, 5, 6, 3, 2, 1, 0] rfl)
