/-! The law's loop: written by wip/whole/genlaw.py -/
set_option maxHeartbeats 8000000 in
set_option maxRecDepth 100000 in
/-- THE LAW'S LOOP -/
theorem law_head {p : Program} {l : Launch} {e : Env} {s : State} {m : MethodId} {below : List Frame} {meth : Method} {c : Code} {D : va_G} {cI cG cJ cZ : ClassId} {b0 L : Nat} {xs : Nat → Int32} {A : Nat → Prop} {kgh kha kch kb klf krt kcl kfr kfa kca kge kga kgaa : Nat} {q : MoA} {k : Nat} (hL : L ≤ 2048) (C0 : lw_At p s m meth c b0 L xs) (hKT : va_K D vwCl (zT cI cG) s) (hKM : va_K D vwCl (zM cI cJ cZ) s) (hX : stF A s s.heap) (hA : ∀ q, s.heap.size ≤ q → A q) (hAf : ∀ q, A q → s.heap.size ≤ q) (hk5 : 4 * k ≤ L + 4) (ih : 4 * k + 4 ≤ L → lawI p l e s m below meth c D cI cG cJ cZ b0 A kgh kha kch kb klf krt kcl kfr kfa kca kge kga kgaa q 18 (k + 1)) : lawI p l e s m below meth c D cI cG cJ cZ b0 A kgh kha kch kb klf krt kcl kfr kfa kca kge kga kgaa q 18 k := by
  have C1 := C0
  obtain ⟨hx, hb, hr, hml, hown, hts, hXs, hbl, hlocks, hgv⟩ := C0
  have hbA : ¬ A b0 := fun h => absurd (hAf _ h) (Nat.not_le.mpr hbl)
  intro gs khf chs kfch kgsz kfga kfs kff kfc kcc kfg kgc kgl kgr mln mfa mga mfb mgb mfc mfm mfz mfl mfk mfq mfh mfw mft mmk mfg mfo mfs mfp mfd mgd mfj hg hmc hM hkn H locs hP hD hS ls hl
  obtain ⟨hI9, hcl9, hcf9, hcv9, _, _⟩ := id hg
  have hgl9 := hI9.1
  refine lv_iload_n hx hb dLW_law_18 rfl (lv_at hl 3 rfl) ?_
  refine lv_aload_n hx hb dLW_law_19 rfl (lv_at hl 0 rfl) ?_
  refine lz_slen hx hb hXs hbl hbA hS dLW_law_20 ?_
  refine lv_iconst (v := iI (4)) hx hb dLW_law_21 rfl ?_
  refine lz_isub hx hb dLW_law_22 ?_
  refine lz_icmp_gt (tgt := 508) hx hb dLW_law_23 (by decide) (by omega) (by omega) (fun c_23 => ?_) (fun c_23 => ?_)
  · refine lv_iconst (v := iI (1)) hx hb dLW_law_508 rfl ?_
    refine va_forget (fun q9 h9 => hAf _ (hS.2.2 q9 h9)) ?_
    refine W.widen (k := 600000) (n := 7302250) (by omega) (by omega) ?_
    exact lw_ret hx hb hr hlocks dLW_law_509
  · refine lv_aload_n hx hb dLW_law_26 rfl (lv_at hl 0 rfl) ?_
    refine lv_iload_n hx hb dLW_law_27 rfl (lv_at hl 3 rfl) ?_
    refine lz_sld hx hb hXs hbl hbA hS (z := 4 * (k : Int)) (4 * k) (by omega) (by omega) dLW_law_28 ?_
    refine lv_bipush (v := iI (15)) hx hb dLW_law_29 (by decide) ?_
    obtain ⟨w9, hw9, ew9⟩ := and15 (iI (xsI xs (4 * k)))
    refine lz_iand (z := (w9 : Int)) hx hb dLW_law_31 (ew9) ?_
    rcases (show (w9 : Int) = 0 ∨ (w9 : Int) = 1 ∨ (w9 : Int) = 2 ∨ (w9 : Int) = 3 ∨ (w9 : Int) = 4 ∨ (w9 : Int) = 5 ∨ (w9 : Int) = 6 ∨ (w9 : Int) = 7 ∨ (w9 : Int) = 8 ∨ (w9 : Int) = 9 ∨ (w9 : Int) = 10 ∨ (w9 : Int) = 11 ∨ ((w9 : Int) < 0 ∨ 11 < (w9 : Int)) from by omega) with c_32 | c_32 | c_32 | c_32 | c_32 | c_32 | c_32 | c_32 | c_32 | c_32 | c_32 | c_32 | c_32
    · refine lv_tableIn (tgt := 96) hx hb dLW_law_32 (by rw [iI_toInt (by omega)]; omega) (by rw [iI_toInt (by omega)]; omega) (by rw [iI_toInt (by omega), c_32]; rfl) (by decide) ?_
      exact law_c0 hL C1 hKT hKM hX hA hAf (by omega) (ih (by omega)) gs khf chs kfch kgsz kfga kfs kff kfc kcc kfg kgc kgl kgr mln mfa mga mfb mgb mfc mfm mfz mfl mfk mfq mfh mfw mft mmk mfg mfo mfs mfp mfd mgd mfj hg hmc hM hkn H locs hP hD hS ls (lv_sub hl [0, 1, 2, 3] rfl)
    · refine lv_tableIn (tgt := 129) hx hb dLW_law_32 (by rw [iI_toInt (by omega)]; omega) (by rw [iI_toInt (by omega)]; omega) (by rw [iI_toInt (by omega), c_32]; rfl) (by decide) ?_
      exact law_c1 hL C1 hKT hKM hX hA hAf (by omega) (ih (by omega)) gs khf chs kfch kgsz kfga kfs kff kfc kcc kfg kgc kgl kgr mln mfa mga mfb mgb mfc mfm mfz mfl mfk mfq mfh mfw mft mmk mfg mfo mfs mfp mfd mgd mfj hg hmc hM hkn H locs hP hD hS ls (lv_sub hl [0, 1, 2, 3] rfl)
    · refine lv_tableIn (tgt := 142) hx hb dLW_law_32 (by rw [iI_toInt (by omega)]; omega) (by rw [iI_toInt (by omega)]; omega) (by rw [iI_toInt (by omega), c_32]; rfl) (by decide) ?_
      exact law_c2 hL C1 hKT hKM hX hA hAf (by omega) (ih (by omega)) gs khf chs kfch kgsz kfga kfs kff kfc kcc kfg kgc kgl kgr mln mfa mga mfb mgb mfc mfm mfz mfl mfk mfq mfh mfw mft mmk mfg mfo mfs mfp mfd mgd mfj hg hmc hM hkn H locs hP hD hS ls (lv_sub hl [0, 1, 2, 3] rfl)
    · refine lv_tableIn (tgt := 175) hx hb dLW_law_32 (by rw [iI_toInt (by omega)]; omega) (by rw [iI_toInt (by omega)]; omega) (by rw [iI_toInt (by omega), c_32]; rfl) (by decide) ?_
      exact law_c3 hL C1 hKT hKM hX hA hAf (by omega) (ih (by omega)) gs khf chs kfch kgsz kfga kfs kff kfc kcc kfg kgc kgl kgr mln mfa mga mfb mgb mfc mfm mfz mfl mfk mfq mfh mfw mft mmk mfg mfo mfs mfp mfd mgd mfj hg hmc hM hkn H locs hP hD hS ls (lv_sub hl [0, 1, 2, 3] rfl)
    · refine lv_tableIn (tgt := 218) hx hb dLW_law_32 (by rw [iI_toInt (by omega)]; omega) (by rw [iI_toInt (by omega)]; omega) (by rw [iI_toInt (by omega), c_32]; rfl) (by decide) ?_
      exact law_c4 hL C1 hKT hKM hX hA hAf (by omega) (ih (by omega)) gs khf chs kfch kgsz kfga kfs kff kfc kcc kfg kgc kgl kgr mln mfa mga mfb mgb mfc mfm mfz mfl mfk mfq mfh mfw mft mmk mfg mfo mfs mfp mfd mgd mfj hg hmc hM hkn H locs hP hD hS ls (lv_sub hl [0, 1, 2, 3] rfl)
    · refine lv_tableIn (tgt := 261) hx hb dLW_law_32 (by rw [iI_toInt (by omega)]; omega) (by rw [iI_toInt (by omega)]; omega) (by rw [iI_toInt (by omega), c_32]; rfl) (by decide) ?_
      exact law_c5 hL C1 hKT hKM hX hA hAf (by omega) (ih (by omega)) gs khf chs kfch kgsz kfga kfs kff kfc kcc kfg kgc kgl kgr mln mfa mga mfb mgb mfc mfm mfz mfl mfk mfq mfh mfw mft mmk mfg mfo mfs mfp mfd mgd mfj hg hmc hM hkn H locs hP hD hS ls (lv_sub hl [0, 1, 2, 3] rfl)
    · refine lv_tableIn (tgt := 304) hx hb dLW_law_32 (by rw [iI_toInt (by omega)]; omega) (by rw [iI_toInt (by omega)]; omega) (by rw [iI_toInt (by omega), c_32]; rfl) (by decide) ?_
      exact law_c6 hL C1 hKT hKM hX hA hAf (by omega) (ih (by omega)) gs khf chs kfch kgsz kfga kfs kff kfc kcc kfg kgc kgl kgr mln mfa mga mfb mgb mfc mfm mfz mfl mfk mfq mfh mfw mft mmk mfg mfo mfs mfp mfd mgd mfj hg hmc hM hkn H locs hP hD hS ls (lv_sub hl [0, 1, 2, 3] rfl)
    · refine lv_tableIn (tgt := 337) hx hb dLW_law_32 (by rw [iI_toInt (by omega)]; omega) (by rw [iI_toInt (by omega)]; omega) (by rw [iI_toInt (by omega), c_32]; rfl) (by decide) ?_
      exact law_c7 hL C1 hKT hKM hX hA hAf (by omega) (ih (by omega)) gs khf chs kfch kgsz kfga kfs kff kfc kcc kfg kgc kgl kgr mln mfa mga mfb mgb mfc mfm mfz mfl mfk mfq mfh mfw mft mmk mfg mfo mfs mfp mfd mgd mfj hg hmc hM hkn H locs hP hD hS ls (lv_sub hl [0, 1, 2, 3] rfl)
    · refine lv_tableIn (tgt := 370) hx hb dLW_law_32 (by rw [iI_toInt (by omega)]; omega) (by rw [iI_toInt (by omega)]; omega) (by rw [iI_toInt (by omega), c_32]; rfl) (by decide) ?_
      exact law_c8 hL C1 hKT hKM hX hA hAf (by omega) (ih (by omega)) gs khf chs kfch kgsz kfga kfs kff kfc kcc kfg kgc kgl kgr mln mfa mga mfb mgb mfc mfm mfz mfl mfk mfq mfh mfw mft mmk mfg mfo mfs mfp mfd mgd mfj hg hmc hM hkn H locs hP hD hS ls (lv_sub hl [0, 1, 2, 3] rfl)
    · refine lv_tableIn (tgt := 393) hx hb dLW_law_32 (by rw [iI_toInt (by omega)]; omega) (by rw [iI_toInt (by omega)]; omega) (by rw [iI_toInt (by omega), c_32]; rfl) (by decide) ?_
      exact law_c9 hL C1 hKT hKM hX hA hAf (by omega) (ih (by omega)) gs khf chs kfch kgsz kfga kfs kff kfc kcc kfg kgc kgl kgr mln mfa mga mfb mgb mfc mfm mfz mfl mfk mfq mfh mfw mft mmk mfg mfo mfs mfp mfd mgd mfj hg hmc hM hkn H locs hP hD hS ls (lv_sub hl [0, 1, 2, 3] rfl)
    · refine lv_tableIn (tgt := 426) hx hb dLW_law_32 (by rw [iI_toInt (by omega)]; omega) (by rw [iI_toInt (by omega)]; omega) (by rw [iI_toInt (by omega), c_32]; rfl) (by decide) ?_
      exact law_c10 hL C1 hKT hKM hX hA hAf (by omega) (ih (by omega)) gs khf chs kfch kgsz kfga kfs kff kfc kcc kfg kgc kgl kgr mln mfa mga mfb mgb mfc mfm mfz mfl mfk mfq mfh mfw mft mmk mfg mfo mfs mfp mfd mgd mfj hg hmc hM hkn H locs hP hD hS ls (lv_sub hl [0, 1, 2, 3] rfl)
    · refine lv_tableIn (tgt := 469) hx hb dLW_law_32 (by rw [iI_toInt (by omega)]; omega) (by rw [iI_toInt (by omega)]; omega) (by rw [iI_toInt (by omega), c_32]; rfl) (by decide) ?_
      exact law_c11 hL C1 hKT hKM hX hA hAf (by omega) (ih (by omega)) gs khf chs kfch kgsz kfga kfs kff kfc kcc kfg kgc kgl kgr mln mfa mga mfb mgb mfc mfm mfz mfl mfk mfq mfh mfw mft mmk mfg mfo mfs mfp mfd mgd mfj hg hmc hM hkn H locs hP hD hS ls (lv_sub hl [0, 1, 2, 3] rfl)
    · refine lv_tableOut (tgt := 502) hx hb dLW_law_32 (by rw [iI_toInt (by omega)]; omega) (by decide) ?_
      exact law_cd hL C1 hKT hKM hX hA hAf (by omega) (ih (by omega)) gs khf chs kfch kgsz kfga kfs kff kfc kcc kfg kgc kgl kgr mln mfa mga mfb mgb mfc mfm mfz mfl mfk mfq mfh mfw mft mmk mfg mfo mfs mfp mfd mgd mfj hg hmc hM hkn H locs hP hD hS ls (lv_sub hl [0, 1, 2, 3] rfl)
