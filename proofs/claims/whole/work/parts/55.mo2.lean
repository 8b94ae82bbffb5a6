/-! GroupHallsModel: place, classBy, classOf, matrices, centrings, hasShift, letterOf, choose: written by wip/whole -/
def rmMO_place : Room := { frames := 0, cells := 0, slots := 0, locals := 0 }
set_option maxHeartbeats 4000000 in
set_option maxRecDepth 100000 in
theorem mMO_place (l : Launch) (D : va_G) (cI cJ cZ : ClassId) (q : MoA) (cn gn ln : Int) (g : Nat) (fm fz : Nat → Int) (ks : List Int) (op : Int) (hs : ks.Pairwise (· < ·)) (hln : 0 < ks.length ∧ ks.length ≤ 192) (he : emb fm (192 * g) ks) (hz : fz g = (ks.length : Int)) (hg : g < 40) (hk : ∀ x ∈ ks, 0 ≤ x ∧ x < 2147483648) (ho : -2147483648 ≤ op ∧ op < 2147483648) : zRI l yMO_place wMO_place rmMO_place D vwCl (zM cI cJ cZ) [.ref q.mo, .int (iI (g : Int)), .int (iI op)] [(moC q cn gn ln), (q.xm, .inl (cI, 7680, .inl (zf fm))), (q.xz, .inl (cI, 40, .inl (zf fz)))] (fun z => lix ks op z) := by
  refine zRI.of (cc := cMO_place) (maxL := 6) (rt := .int) (by decide) rfl (Nat.le_of_ble_eq_true rfl) (fun _ _ => rfl) ?_
  intro p e s m args below meth c ls Q hx hb hml hown hts hK hP hX hl hret
  have hS0 : va_S (fun _ => False) s.heap s.heap [] := va_S.rf
  have hl : lv_has ls 6 [(0, .ref q.mo), (1, .int (iI (g : Int))), (2, .int (iI op))] := hl
  refine lv_iconst (v := iI (0)) hx hb dMO_place_0 rfl ?_
  refine lv_istore_n (lv' := [(3, .int (iI 0)), (0, .ref q.mo), (1, .int (iI (g : Int))), (2, .int (iI op))]) hx hb dMO_place_1 rfl hl (by decide) rfl (fun ls hl => ?_)
  refine lv_aload_n hx hb dMO_place_2 rfl (lv_at hl 1 rfl) ?_
  refine va_get (D := D) (ci := 7) (v := .ref q.xz) (C := nMO) (T := fMO) (N := 24) hx hb hts iwMO hown hK hP 0 rfl rfl 7 (by decide) (hts _ (List.mem_cons_of_mem _ lkMO_28)) (fun _ h9 => h9) rfl dMO_place_3 ?_
  refine lv_iload_n hx hb dMO_place_6 rfl (lv_at hl 2 rfl) ?_
  refine lz_ialk hx hb hK hP 2 0 rfl rfl (z := (g : Int)) g rfl (by omega) dMO_place_7 ?_
  refine lz_as (x := fz g) (y := (ks.length : Int)) (hz) ?_
  refine lv_iconst (v := iI (1)) hx hb dMO_place_8 rfl ?_
  refine lz_isub hx hb dMO_place_9 ?_
  refine lv_istore (lv' := [(4, .int (iI ((ks.length : Int) - 1))), (3, .int (iI 0)), (0, .ref q.mo), (1, .int (iI (g : Int))), (2, .int (iI op))]) hx hb dMO_place_10 hl (by decide) rfl (fun ls hl => ?_)
  rw [show (ks.length : Int) - 1 = ((ks.length - 1 : Nat) : Int) from by omega] at hl
  have lp12 : ∀ (n9 : Nat) (lo hi : Nat), (lo ≤ hi) → (hi < ks.length) → (∀ j, j < lo → ks.getD j (-1) < op) → (hi + 1 = ks.length ∨ op ≤ ks.getD hi (-1)) → (hi - lo) < n9 → ∀ (ls : Array Slot), lv_has ls 6 [(0, .ref q.mo), (1, .int (iI (g : Int))), (2, .int (iI op)), (3, .int (iI (lo : Int))), (4, .int (iI (hi : Int)))] → W p l e (headSpec wMO_place rmMO_place).room s m args below meth c s.heap [] 0 0 Q (F0 m 12 ls []) := by
    intro n9
    induction n9 with
    | zero => intro lo hi hlo hhi h1 h2 hm; exact absurd hm (Nat.not_lt_zero _)
    | succ n9 ih12 =>
      intro lo hi hlo hhi h1 h2 hm12 ls hl
      refine lv_iload_n hx hb dMO_place_12 rfl (lv_at hl 3 rfl) ?_
      refine lv_iload hx hb dMO_place_13 (lv_at hl 4 rfl) ?_
      refine lz_icmp_ge (tgt := 58) hx hb dMO_place_15 (by decide) (by omega) (by omega) (fun c_15 => ?_) (fun c_15 => ?_)
      · have hlh : lo = hi := by omega
        subst hlh
        refine lv_aload_n hx hb dMO_place_58 rfl (lv_at hl 0 rfl) ?_
        refine va_get (D := D) (ci := 7) (v := .ref q.xm) (C := nMO) (T := fMO) (N := 24) hx hb hts iwMO hown hK hP 0 rfl rfl 6 (by decide) (hts _ (List.mem_cons_of_mem _ lkMO_25)) (fun _ h9 => h9) rfl dMO_place_59 ?_
        refine lv_sipush (v := iI (192)) hx hb dMO_place_62 (by decide) ?_
        refine lv_iload_n hx hb dMO_place_65 rfl (lv_at hl 1 rfl) ?_
        refine lz_imul hx hb dMO_place_66 ?_
        refine lv_iload_n hx hb dMO_place_67 rfl (lv_at hl 3 rfl) ?_
        refine lz_iadd hx hb dMO_place_68 ?_
        refine lz_ialk hx hb hK hP 1 0 rfl rfl (z := (192 * (g : Int)) + (lo : Int)) (192 * g + lo) (by omega) (by omega) dMO_place_69 ?_
        refine lz_as (x := fm (192 * g + lo)) (y := ks.getD lo (-1)) (he _ (by omega)) ?_
        refine lv_iload_n hx hb dMO_place_70 rfl (lv_at hl 2 rfl) ?_
        refine lz_icmp_ne (tgt := 78) hx hb dMO_place_71 (by decide) (by have := hk _ (getD_mem (ks := ks) (j := lo) (by omega)); omega) (by omega) (fun c_71 => ?_) (fun c_71 => ?_)
        · refine lv_iconst (v := iI (-1)) hx hb dMO_place_78 rfl ?_
          exact hret 79 ls (-1) (Or.inr ⟨place_end hs hhi h1 h2 c_71, rfl⟩) dMO_place_79
        · refine lv_iload_n hx hb dMO_place_74 rfl (lv_at hl 3 rfl) ?_
          refine lv_goto (tgt := 79) hx hb dMO_place_75 (by decide) ?_
          exact hret 79 ls (lo : Int) (Or.inl ⟨by rw [← c_71]; exact getD_mem hhi, by omega, by omega, c_71⟩) dMO_place_79
      · refine lv_iload_n hx hb dMO_place_18 rfl (lv_at hl 3 rfl) ?_
        refine lv_iload hx hb dMO_place_19 (lv_at hl 4 rfl) ?_
        refine lz_iadd hx hb dMO_place_21 ?_
        refine lv_iconst (v := iI (2)) hx hb dMO_place_22 rfl ?_
        refine lz_idiv hx hb dMO_place_23 (by omega) (by omega) ?_
        refine lv_istore (lv' := [(5, .int (iI (((lo : Int) + (hi : Int)) / 2))), (0, .ref q.mo), (1, .int (iI (g : Int))), (2, .int (iI op)), (3, .int (iI (lo : Int))), (4, .int (iI (hi : Int)))]) hx hb dMO_place_24 hl (by decide) rfl (fun ls hl => ?_)
        refine lv_aload_n hx hb dMO_place_26 rfl (lv_at hl 1 rfl) ?_
        refine va_get (D := D) (ci := 7) (v := .ref q.xm) (C := nMO) (T := fMO) (N := 24) hx hb hts iwMO hown hK hP 0 rfl rfl 6 (by decide) (hts _ (List.mem_cons_of_mem _ lkMO_25)) (fun _ h9 => h9) rfl dMO_place_27 ?_
        refine lv_sipush (v := iI (192)) hx hb dMO_place_30 (by decide) ?_
        refine lv_iload_n hx hb dMO_place_33 rfl (lv_at hl 2 rfl) ?_
        refine lz_imul hx hb dMO_place_34 ?_
        refine lv_iload hx hb dMO_place_35 (lv_at hl 0 rfl) ?_
        refine lz_iadd hx hb dMO_place_37 ?_
        refine lz_ialk hx hb hK hP 1 0 rfl rfl (z := (192 * (g : Int)) + (((lo : Int) + (hi : Int)) / 2)) (192 * g + (lo + hi) / 2) (by omega) (by omega) dMO_place_38 ?_
        refine lz_as (x := fm (192 * g + (lo + hi) / 2)) (y := ks.getD ((lo + hi) / 2) (-1)) (he _ (by omega)) ?_
        refine lv_iload_n hx hb dMO_place_39 rfl (lv_at hl 3 rfl) ?_
        refine lz_icmp_ge (tgt := 51) hx hb dMO_place_40 (by decide) (by have := hk _ (getD_mem (ks := ks) (j := (lo + hi) / 2) (by omega)); omega) (by omega) (fun c_40 => ?_) (fun c_40 => ?_)
        · refine lv_iload hx hb dMO_place_51 (lv_at hl 0 rfl) ?_
          refine lv_istore (lv' := [(4, .int (iI (((lo : Int) + (hi : Int)) / 2))), (5, .int (iI (((lo : Int) + (hi : Int)) / 2))), (0, .ref q.mo), (1, .int (iI (g : Int))), (2, .int (iI op)), (3, .int (iI (lo : Int)))]) hx hb dMO_place_53 hl (by decide) rfl (fun ls hl => ?_)
          refine lv_goto (tgt := 12) hx hb dMO_place_55 (by decide) ?_
          rw [show ((lo : Int) + (hi : Int)) / 2 = (((lo + hi) / 2 : Nat) : Int) from by omega] at hl
          exact ih12 lo ((lo + hi) / 2) (by omega) (by omega) h1 (Or.inr c_40) (by omega) _ (lv_sub hl [2, 3, 4, 5, 0] rfl)
        · refine lv_iload hx hb dMO_place_43 (lv_at hl 0 rfl) ?_
          refine lv_iconst (v := iI (1)) hx hb dMO_place_45 rfl ?_
          refine lz_iadd hx hb dMO_place_46 ?_
          refine lv_istore_n (lv' := [(3, .int (iI ((((lo : Int) + (hi : Int)) / 2) + 1))), (5, .int (iI (((lo : Int) + (hi : Int)) / 2))), (0, .ref q.mo), (1, .int (iI (g : Int))), (2, .int (iI op)), (4, .int (iI (hi : Int)))]) hx hb dMO_place_47 rfl hl (by decide) rfl (fun ls hl => ?_)
          refine lv_goto (tgt := 55) hx hb dMO_place_48 (by decide) ?_
          refine lv_goto (tgt := 12) hx hb dMO_place_55 (by decide) ?_
          rw [show (((lo : Int) + (hi : Int)) / 2) + 1 = (((lo + hi) / 2 + 1 : Nat) : Int) from by omega] at hl
          exact ih12 ((lo + hi) / 2 + 1) hi (by omega) (by omega) (fun j hj => by have := getD_le hs (i := j) (j := (lo + hi) / 2) (by omega) (by omega); omega) h2 (by omega) _ (lv_sub hl [2, 3, 4, 0, 5] rfl)
  exact lp12 _ 0 (ks.length - 1) (by omega) (by omega) (fun j hj => absurd hj (Nat.not_lt_zero _)) (Or.inl (by omega)) (Nat.lt_succ_self _) _ (lv_sub hl [2, 3, 4, 1, 0] rfl)

def rmMO_classBy : Room := { frames := 0, cells := 0, slots := 0, locals := 0 }
set_option maxHeartbeats 4000000 in
set_option maxRecDepth 100000 in
theorem mMO_classBy (l : Launch) (D : va_G) (cI cJ cZ : ClassId) (a b : Int) (ha : -2147483648 ≤ a ∧ a < 2147483648) (hb9 : -2147483648 ≤ b ∧ b < 2147483648) : zRI l yMO_classBy wMO_classBy rmMO_classBy D vwCl (zM cI cJ cZ) [.int (iI a), .int (iI b)] [] (fun z => z = clsR a b) := by
  refine zRI.of (cc := cMO_classBy) (maxL := 2) (rt := .int) (by decide) rfl (Nat.le_of_ble_eq_true rfl) (fun _ _ => rfl) ?_
  intro p e s m args below meth c ls Q hx hb hml hown hts hK hP hX hl hret
  have hS0 : va_S (fun _ => False) s.heap s.heap [] := va_S.rf
  have hl : lv_has ls 2 [(0, .int (iI a)), (1, .int (iI b))] := hl
  refine lv_iload_n hx hb dMO_classBy_0 rfl (lv_at hl 0 rfl) ?_
  rcases (show a = 0 ∨ a = 200 ∨ a = 1000 ∨ a = 1020 ∨ a = 1202 ∨ a = 3000 ∨ a = 3200 ∨ a = 3800 ∨ a = 5020 ∨ a = 7202 ∨ a = 9860 ∨ (a ≠ 0 ∧ a ≠ 200 ∧ a ≠ 1000 ∧ a ≠ 1020 ∧ a ≠ 1202 ∧ a ≠ 3000 ∧ a ≠ 3200 ∧ a ≠ 3800 ∧ a ≠ 5020 ∧ a ≠ 7202 ∧ a ≠ 9860) from by omega) with c_1 | c_1 | c_1 | c_1 | c_1 | c_1 | c_1 | c_1 | c_1 | c_1 | c_1 | c_1
  · refine lv_lookup (tgt := 100) (off := 99) hx hb dMO_classBy_1 (by decide) (by rw [iI_toInt (by omega), c_1]; rfl) (by decide) ?_
    refine lv_iload_n hx hb dMO_classBy_100 rfl (lv_at hl 1 rfl) ?_
    refine lz_if_ne (tgt := 108) hx hb dMO_classBy_101 (by decide) (by omega) (fun c_101 => ?_) (fun c_101 => ?_)
    · refine lv_iload_n hx hb dMO_classBy_108 rfl (lv_at hl 1 rfl) ?_
      refine lv_sipush (v := iI (10000)) hx hb dMO_classBy_109 (by decide) ?_
      refine lz_icmp_ne (tgt := 119) hx hb dMO_classBy_112 (by decide) (by omega) (by omega) (fun c_112 => ?_) (fun c_112 => ?_)
      · refine lv_iload_n hx hb dMO_classBy_119 rfl (lv_at hl 1 rfl) ?_
        refine lv_sipush (v := iI (1000)) hx hb dMO_classBy_120 (by decide) ?_
        refine lz_icmp_ne (tgt := 130) hx hb dMO_classBy_123 (by decide) (by omega) (by omega) (fun c_123 => ?_) (fun c_123 => ?_)
        · refine lv_iconst (v := iI (0)) hx hb dMO_classBy_130 rfl ?_
          exact hret 131 ls 0 (by unfold clsR; rw [c_1, if_pos rfl, if_neg c_101, if_neg c_112, if_neg c_123]) dMO_classBy_131
        · refine lv_iconst (v := iI (4)) hx hb dMO_classBy_126 rfl ?_
          refine lv_goto (tgt := 131) hx hb dMO_classBy_127 (by decide) ?_
          exact hret 131 ls 4 (by unfold clsR; rw [c_1, if_pos rfl, if_neg c_101, if_neg c_112, if_pos c_123]) dMO_classBy_131
      · refine lv_iconst (v := iI (2)) hx hb dMO_classBy_115 rfl ?_
        refine lv_goto (tgt := 131) hx hb dMO_classBy_116 (by decide) ?_
        exact hret 131 ls 2 (by unfold clsR; rw [c_1, if_pos rfl, if_neg c_101, if_pos c_112]) dMO_classBy_131
    · refine lv_iconst (v := iI (1)) hx hb dMO_classBy_104 rfl ?_
      refine lv_goto (tgt := 131) hx hb dMO_classBy_105 (by decide) ?_
      exact hret 131 ls 1 (by unfold clsR; rw [c_1, if_pos rfl, if_pos c_101]) dMO_classBy_131
  · refine lv_lookup (tgt := 269) (off := 268) hx hb dMO_classBy_1 (by decide) (by rw [iI_toInt (by omega), c_1]; rfl) (by decide) ?_
    refine lv_iload_n hx hb dMO_classBy_269 rfl (lv_at hl 1 rfl) ?_
    refine lz_if_ne (tgt := 278) hx hb dMO_classBy_270 (by decide) (by omega) (fun c_270 => ?_) (fun c_270 => ?_)
    · refine lv_iload_n hx hb dMO_classBy_278 rfl (lv_at hl 1 rfl) ?_
      refine lv_sipush (v := iI (10200)) hx hb dMO_classBy_279 (by decide) ?_
      refine lz_icmp_ne (tgt := 290) hx hb dMO_classBy_282 (by decide) (by omega) (by omega) (fun c_282 => ?_) (fun c_282 => ?_)
      · refine lv_iload_n hx hb dMO_classBy_290 rfl (lv_at hl 1 rfl) ?_
        refine lv_sipush (v := iI (3000)) hx hb dMO_classBy_291 (by decide) ?_
        refine lz_icmp_ne (tgt := 302) hx hb dMO_classBy_294 (by decide) (by omega) (by omega) (fun c_294 => ?_) (fun c_294 => ?_)
        · refine lv_iload_n hx hb dMO_classBy_302 rfl (lv_at hl 1 rfl) ?_
          refine lv_sipush (v := iI (1002)) hx hb dMO_classBy_303 (by decide) ?_
          refine lz_icmp_ne (tgt := 314) hx hb dMO_classBy_306 (by decide) (by omega) (by omega) (fun c_306 => ?_) (fun c_306 => ?_)
          · refine lv_iconst (v := iI (0)) hx hb dMO_classBy_314 rfl ?_
            exact hret 315 ls 0 (by unfold clsR; rw [c_1, if_neg (by decide), if_pos rfl, if_neg c_270, if_neg c_282, if_neg c_294, if_neg c_306]) dMO_classBy_315
          · refine lv_bipush (v := iI (22)) hx hb dMO_classBy_309 (by decide) ?_
            refine lv_goto (tgt := 315) hx hb dMO_classBy_311 (by decide) ?_
            exact hret 315 ls 22 (by unfold clsR; rw [c_1, if_neg (by decide), if_pos rfl, if_neg c_270, if_neg c_282, if_neg c_294, if_pos c_306]) dMO_classBy_315
        · refine lv_bipush (v := iI (19)) hx hb dMO_classBy_297 (by decide) ?_
          refine lv_goto (tgt := 315) hx hb dMO_classBy_299 (by decide) ?_
          exact hret 315 ls 19 (by unfold clsR; rw [c_1, if_neg (by decide), if_pos rfl, if_neg c_270, if_neg c_282, if_pos c_294]) dMO_classBy_315
      · refine lv_bipush (v := iI (17)) hx hb dMO_classBy_285 (by decide) ?_
        refine lv_goto (tgt := 315) hx hb dMO_classBy_287 (by decide) ?_
        exact hret 315 ls 17 (by unfold clsR; rw [c_1, if_neg (by decide), if_pos rfl, if_neg c_270, if_pos c_282]) dMO_classBy_315
    · refine lv_bipush (v := iI (16)) hx hb dMO_classBy_273 (by decide) ?_
      refine lv_goto (tgt := 315) hx hb dMO_classBy_275 (by decide) ?_
      exact hret 315 ls 16 (by unfold clsR; rw [c_1, if_neg (by decide), if_pos rfl, if_pos c_270]) dMO_classBy_315
  · refine lv_lookup (tgt := 132) (off := 131) hx hb dMO_classBy_1 (by decide) (by rw [iI_toInt (by omega), c_1]; rfl) (by decide) ?_
    refine lv_iload_n hx hb dMO_classBy_132 rfl (lv_at hl 1 rfl) ?_
    refine lz_if_ne (tgt := 140) hx hb dMO_classBy_133 (by decide) (by omega) (fun c_133 => ?_) (fun c_133 => ?_)
    · refine lv_iload_n hx hb dMO_classBy_140 rfl (lv_at hl 1 rfl) ?_
      refine lv_sipush (v := iI (11000)) hx hb dMO_classBy_141 (by decide) ?_
      refine lz_icmp_ne (tgt := 151) hx hb dMO_classBy_144 (by decide) (by omega) (by omega) (fun c_144 => ?_) (fun c_144 => ?_)
      · refine lv_iload_n hx hb dMO_classBy_151 rfl (lv_at hl 1 rfl) ?_
        refine lv_sipush (v := iI (2000)) hx hb dMO_classBy_152 (by decide) ?_
        refine lz_icmp_ne (tgt := 163) hx hb dMO_classBy_155 (by decide) (by omega) (by omega) (fun c_155 => ?_) (fun c_155 => ?_)
        · refine lv_iload_n hx hb dMO_classBy_163 rfl (lv_at hl 1 rfl) ?_
          refine lv_bipush (v := iI (20)) hx hb dMO_classBy_164 (by decide) ?_
          refine lz_icmp_ne (tgt := 174) hx hb dMO_classBy_166 (by decide) (by omega) (by omega) (fun c_166 => ?_) (fun c_166 => ?_)
          · refine lv_iconst (v := iI (0)) hx hb dMO_classBy_174 rfl ?_
            exact hret 175 ls 0 (by unfold clsR; rw [c_1, if_neg (by decide), if_neg (by decide), if_pos rfl, if_neg c_133, if_neg c_144, if_neg c_155, if_neg c_166]) dMO_classBy_175
          · refine lv_bipush (v := iI (10)) hx hb dMO_classBy_169 (by decide) ?_
            refine lv_goto (tgt := 175) hx hb dMO_classBy_171 (by decide) ?_
            exact hret 175 ls 10 (by unfold clsR; rw [c_1, if_neg (by decide), if_neg (by decide), if_pos rfl, if_neg c_133, if_neg c_144, if_neg c_155, if_pos c_166]) dMO_classBy_175
        · refine lv_bipush (v := iI (7)) hx hb dMO_classBy_158 (by decide) ?_
          refine lv_goto (tgt := 175) hx hb dMO_classBy_160 (by decide) ?_
          exact hret 175 ls 7 (by unfold clsR; rw [c_1, if_neg (by decide), if_neg (by decide), if_pos rfl, if_neg c_133, if_neg c_144, if_pos c_155]) dMO_classBy_175
      · refine lv_iconst (v := iI (5)) hx hb dMO_classBy_147 rfl ?_
        refine lv_goto (tgt := 175) hx hb dMO_classBy_148 (by decide) ?_
        exact hret 175 ls 5 (by unfold clsR; rw [c_1, if_neg (by decide), if_neg (by decide), if_pos rfl, if_neg c_133, if_pos c_144]) dMO_classBy_175
    · refine lv_iconst (v := iI (3)) hx hb dMO_classBy_136 rfl ?_
      refine lv_goto (tgt := 175) hx hb dMO_classBy_137 (by decide) ?_
      exact hret 175 ls 3 (by unfold clsR; rw [c_1, if_neg (by decide), if_neg (by decide), if_pos rfl, if_pos c_133]) dMO_classBy_175
  · refine lv_lookup (tgt := 211) (off := 210) hx hb dMO_classBy_1 (by decide) (by rw [iI_toInt (by omega), c_1]; rfl) (by decide) ?_
    refine lv_iload_n hx hb dMO_classBy_211 rfl (lv_at hl 1 rfl) ?_
    refine lz_if_ne (tgt := 220) hx hb dMO_classBy_212 (by decide) (by omega) (fun c_212 => ?_) (fun c_212 => ?_)
    · refine lv_iload_n hx hb dMO_classBy_220 rfl (lv_at hl 1 rfl) ?_
      refine lv_sipush (v := iI (11020)) hx hb dMO_classBy_221 (by decide) ?_
      refine lz_icmp_ne (tgt := 232) hx hb dMO_classBy_224 (by decide) (by omega) (by omega) (fun c_224 => ?_) (fun c_224 => ?_)
      · refine lv_iload_n hx hb dMO_classBy_232 rfl (lv_at hl 1 rfl) ?_
        refine lv_sipush (v := iI (4000)) hx hb dMO_classBy_233 (by decide) ?_
        refine lz_icmp_ne (tgt := 244) hx hb dMO_classBy_236 (by decide) (by omega) (by omega) (fun c_236 => ?_) (fun c_236 => ?_)
        · refine lv_iconst (v := iI (0)) hx hb dMO_classBy_244 rfl ?_
          exact hret 245 ls 0 (by unfold clsR; rw [c_1, if_neg (by decide), if_neg (by decide), if_neg (by decide), if_pos rfl, if_neg c_212, if_neg c_224, if_neg c_236]) dMO_classBy_245
        · refine lv_bipush (v := iI (13)) hx hb dMO_classBy_239 (by decide) ?_
          refine lv_goto (tgt := 245) hx hb dMO_classBy_241 (by decide) ?_
          exact hret 245 ls 13 (by unfold clsR; rw [c_1, if_neg (by decide), if_neg (by decide), if_neg (by decide), if_pos rfl, if_neg c_212, if_neg c_224, if_pos c_236]) dMO_classBy_245
      · refine lv_bipush (v := iI (11)) hx hb dMO_classBy_227 (by decide) ?_
        refine lv_goto (tgt := 245) hx hb dMO_classBy_229 (by decide) ?_
        exact hret 245 ls 11 (by unfold clsR; rw [c_1, if_neg (by decide), if_neg (by decide), if_neg (by decide), if_pos rfl, if_neg c_212, if_pos c_224]) dMO_classBy_245
    · refine lv_bipush (v := iI (9)) hx hb dMO_classBy_215 (by decide) ?_
      refine lv_goto (tgt := 245) hx hb dMO_classBy_217 (by decide) ?_
      exact hret 245 ls 9 (by unfold clsR; rw [c_1, if_neg (by decide), if_neg (by decide), if_neg (by decide), if_pos rfl, if_pos c_212]) dMO_classBy_245
  · refine lv_lookup (tgt := 351) (off := 350) hx hb dMO_classBy_1 (by decide) (by rw [iI_toInt (by omega), c_1]; rfl) (by decide) ?_
    refine lv_iload_n hx hb dMO_classBy_351 rfl (lv_at hl 1 rfl) ?_
    refine lz_if_ne (tgt := 360) hx hb dMO_classBy_352 (by decide) (by omega) (fun c_352 => ?_) (fun c_352 => ?_)
    · refine lv_iload_n hx hb dMO_classBy_360 rfl (lv_at hl 1 rfl) ?_
      refine lv_sipush (v := iI (11202)) hx hb dMO_classBy_361 (by decide) ?_
      refine lz_icmp_ne (tgt := 372) hx hb dMO_classBy_364 (by decide) (by omega) (by omega) (fun c_364 => ?_) (fun c_364 => ?_)
      · refine lv_iload_n hx hb dMO_classBy_372 rfl (lv_at hl 1 rfl) ?_
        refine lv_sipush (v := iI (6000)) hx hb dMO_classBy_373 (by decide) ?_
        refine lz_icmp_ne (tgt := 384) hx hb dMO_classBy_376 (by decide) (by omega) (by omega) (fun c_376 => ?_) (fun c_376 => ?_)
        · refine lv_iconst (v := iI (0)) hx hb dMO_classBy_384 rfl ?_
          exact hret 385 ls 0 (by unfold clsR; rw [c_1, if_neg (by decide), if_neg (by decide), if_neg (by decide), if_neg (by decide), if_pos rfl, if_neg c_352, if_neg c_364, if_neg c_376]) dMO_classBy_385
        · refine lv_bipush (v := iI (25)) hx hb dMO_classBy_379 (by decide) ?_
          refine lv_goto (tgt := 385) hx hb dMO_classBy_381 (by decide) ?_
          exact hret 385 ls 25 (by unfold clsR; rw [c_1, if_neg (by decide), if_neg (by decide), if_neg (by decide), if_neg (by decide), if_pos rfl, if_neg c_352, if_neg c_364, if_pos c_376]) dMO_classBy_385
      · refine lv_bipush (v := iI (23)) hx hb dMO_classBy_367 (by decide) ?_
        refine lv_goto (tgt := 385) hx hb dMO_classBy_369 (by decide) ?_
        exact hret 385 ls 23 (by unfold clsR; rw [c_1, if_neg (by decide), if_neg (by decide), if_neg (by decide), if_neg (by decide), if_pos rfl, if_neg c_352, if_pos c_364]) dMO_classBy_385
    · refine lv_bipush (v := iI (21)) hx hb dMO_classBy_355 (by decide) ?_
      refine lv_goto (tgt := 385) hx hb dMO_classBy_357 (by decide) ?_
      exact hret 385 ls 21 (by unfold clsR; rw [c_1, if_neg (by decide), if_neg (by decide), if_neg (by decide), if_neg (by decide), if_pos rfl, if_pos c_352]) dMO_classBy_385
  · refine lv_lookup (tgt := 176) (off := 175) hx hb dMO_classBy_1 (by decide) (by rw [iI_toInt (by omega), c_1]; rfl) (by decide) ?_
    refine lv_iload_n hx hb dMO_classBy_176 rfl (lv_at hl 1 rfl) ?_
    refine lz_if_ne (tgt := 185) hx hb dMO_classBy_177 (by decide) (by omega) (fun c_177 => ?_) (fun c_177 => ?_)
    · refine lv_iload_n hx hb dMO_classBy_185 rfl (lv_at hl 1 rfl) ?_
      refine lv_sipush (v := iI (13000)) hx hb dMO_classBy_186 (by decide) ?_
      refine lz_icmp_ne (tgt := 197) hx hb dMO_classBy_189 (by decide) (by omega) (by omega) (fun c_189 => ?_) (fun c_189 => ?_)
      · refine lv_iload_n hx hb dMO_classBy_197 rfl (lv_at hl 1 rfl) ?_
        refine lv_sipush (v := iI (2020)) hx hb dMO_classBy_198 (by decide) ?_
        refine lz_icmp_ne (tgt := 209) hx hb dMO_classBy_201 (by decide) (by omega) (by omega) (fun c_201 => ?_) (fun c_201 => ?_)
        · refine lv_iconst (v := iI (0)) hx hb dMO_classBy_209 rfl ?_
          exact hret 210 ls 0 (by unfold clsR; rw [c_1, if_neg (by decide), if_neg (by decide), if_neg (by decide), if_neg (by decide), if_neg (by decide), if_pos rfl, if_neg c_177, if_neg c_189, if_neg c_201]) dMO_classBy_210
        · refine lv_bipush (v := iI (14)) hx hb dMO_classBy_204 (by decide) ?_
          refine lv_goto (tgt := 210) hx hb dMO_classBy_206 (by decide) ?_
          exact hret 210 ls 14 (by unfold clsR; rw [c_1, if_neg (by decide), if_neg (by decide), if_neg (by decide), if_neg (by decide), if_neg (by decide), if_pos rfl, if_neg c_177, if_neg c_189, if_pos c_201]) dMO_classBy_210
      · refine lv_bipush (v := iI (8)) hx hb dMO_classBy_192 (by decide) ?_
        refine lv_goto (tgt := 210) hx hb dMO_classBy_194 (by decide) ?_
        exact hret 210 ls 8 (by unfold clsR; rw [c_1, if_neg (by decide), if_neg (by decide), if_neg (by decide), if_neg (by decide), if_neg (by decide), if_pos rfl, if_neg c_177, if_pos c_189]) dMO_classBy_210
    · refine lv_bipush (v := iI (6)) hx hb dMO_classBy_180 (by decide) ?_
      refine lv_goto (tgt := 210) hx hb dMO_classBy_182 (by decide) ?_
      exact hret 210 ls 6 (by unfold clsR; rw [c_1, if_neg (by decide), if_neg (by decide), if_neg (by decide), if_neg (by decide), if_neg (by decide), if_pos rfl, if_pos c_177]) dMO_classBy_210
  · refine lv_lookup (tgt := 316) (off := 315) hx hb dMO_classBy_1 (by decide) (by rw [iI_toInt (by omega), c_1]; rfl) (by decide) ?_
    refine lv_iload_n hx hb dMO_classBy_316 rfl (lv_at hl 1 rfl) ?_
    refine lz_if_ne (tgt := 325) hx hb dMO_classBy_317 (by decide) (by omega) (fun c_317 => ?_) (fun c_317 => ?_)
    · refine lv_iload_n hx hb dMO_classBy_325 rfl (lv_at hl 1 rfl) ?_
      refine lv_sipush (v := iI (13200)) hx hb dMO_classBy_326 (by decide) ?_
      refine lz_icmp_ne (tgt := 337) hx hb dMO_classBy_329 (by decide) (by omega) (by omega) (fun c_329 => ?_) (fun c_329 => ?_)
      · refine lv_iload_n hx hb dMO_classBy_337 rfl (lv_at hl 1 rfl) ?_
        refine lv_sipush (v := iI (4002)) hx hb dMO_classBy_338 (by decide) ?_
        refine lz_icmp_ne (tgt := 349) hx hb dMO_classBy_341 (by decide) (by omega) (by omega) (fun c_341 => ?_) (fun c_341 => ?_)
        · refine lv_iconst (v := iI (0)) hx hb dMO_classBy_349 rfl ?_
          exact hret 350 ls 0 (by unfold clsR; rw [c_1, if_neg (by decide), if_neg (by decide), if_neg (by decide), if_neg (by decide), if_neg (by decide), if_neg (by decide), if_pos rfl, if_neg c_317, if_neg c_329, if_neg c_341]) dMO_classBy_350
        · refine lv_bipush (v := iI (26)) hx hb dMO_classBy_344 (by decide) ?_
          refine lv_goto (tgt := 350) hx hb dMO_classBy_346 (by decide) ?_
          exact hret 350 ls 26 (by unfold clsR; rw [c_1, if_neg (by decide), if_neg (by decide), if_neg (by decide), if_neg (by decide), if_neg (by decide), if_neg (by decide), if_pos rfl, if_neg c_317, if_neg c_329, if_pos c_341]) dMO_classBy_350
      · refine lv_bipush (v := iI (20)) hx hb dMO_classBy_332 (by decide) ?_
        refine lv_goto (tgt := 350) hx hb dMO_classBy_334 (by decide) ?_
        exact hret 350 ls 20 (by unfold clsR; rw [c_1, if_neg (by decide), if_neg (by decide), if_neg (by decide), if_neg (by decide), if_neg (by decide), if_neg (by decide), if_pos rfl, if_neg c_317, if_pos c_329]) dMO_classBy_350
    · refine lv_bipush (v := iI (18)) hx hb dMO_classBy_320 (by decide) ?_
      refine lv_goto (tgt := 350) hx hb dMO_classBy_322 (by decide) ?_
      exact hret 350 ls 18 (by unfold clsR; rw [c_1, if_neg (by decide), if_neg (by decide), if_neg (by decide), if_neg (by decide), if_neg (by decide), if_neg (by decide), if_pos rfl, if_pos c_317]) dMO_classBy_350
  · refine lv_lookup (tgt := 409) (off := 408) hx hb dMO_classBy_1 (by decide) (by rw [iI_toInt (by omega), c_1]; rfl) (by decide) ?_
    refine lv_iload_n hx hb dMO_classBy_409 rfl (lv_at hl 1 rfl) ?_
    refine lz_if_ne (tgt := 418) hx hb dMO_classBy_410 (by decide) (by omega) (fun c_410 => ?_) (fun c_410 => ?_)
    · refine lv_iload_n hx hb dMO_classBy_418 rfl (lv_at hl 1 rfl) ?_
      refine lv_sipush (v := iI (13800)) hx hb dMO_classBy_419 (by decide) ?_
      refine lz_icmp_ne (tgt := 430) hx hb dMO_classBy_422 (by decide) (by omega) (by omega) (fun c_422 => ?_) (fun c_422 => ?_)
      · refine lv_iload_n hx hb dMO_classBy_430 rfl (lv_at hl 1 rfl) ?_
        refine lv_sipush (v := iI (6060)) hx hb dMO_classBy_431 (by decide) ?_
        refine lz_icmp_ne (tgt := 442) hx hb dMO_classBy_434 (by decide) (by omega) (by omega) (fun c_434 => ?_) (fun c_434 => ?_)
        · refine lv_iconst (v := iI (0)) hx hb dMO_classBy_442 rfl ?_
          exact hret 443 ls 0 (by unfold clsR; rw [c_1, if_neg (by decide), if_neg (by decide), if_neg (by decide), if_neg (by decide), if_neg (by decide), if_neg (by decide), if_neg (by decide), if_pos rfl, if_neg c_410, if_neg c_422, if_neg c_434]) dMO_classBy_443
        · refine lv_bipush (v := iI (31)) hx hb dMO_classBy_437 (by decide) ?_
          refine lv_goto (tgt := 443) hx hb dMO_classBy_439 (by decide) ?_
          exact hret 443 ls 31 (by unfold clsR; rw [c_1, if_neg (by decide), if_neg (by decide), if_neg (by decide), if_neg (by decide), if_neg (by decide), if_neg (by decide), if_neg (by decide), if_pos rfl, if_neg c_410, if_neg c_422, if_pos c_434]) dMO_classBy_443
      · refine lv_bipush (v := iI (29)) hx hb dMO_classBy_425 (by decide) ?_
        refine lv_goto (tgt := 443) hx hb dMO_classBy_427 (by decide) ?_
        exact hret 443 ls 29 (by unfold clsR; rw [c_1, if_neg (by decide), if_neg (by decide), if_neg (by decide), if_neg (by decide), if_neg (by decide), if_neg (by decide), if_neg (by decide), if_pos rfl, if_neg c_410, if_pos c_422]) dMO_classBy_443
    · refine lv_bipush (v := iI (28)) hx hb dMO_classBy_413 (by decide) ?_
      refine lv_goto (tgt := 443) hx hb dMO_classBy_415 (by decide) ?_
      exact hret 443 ls 28 (by unfold clsR; rw [c_1, if_neg (by decide), if_neg (by decide), if_neg (by decide), if_neg (by decide), if_neg (by decide), if_neg (by decide), if_neg (by decide), if_pos rfl, if_pos c_410]) dMO_classBy_443
  · refine lv_lookup (tgt := 246) (off := 245) hx hb dMO_classBy_1 (by decide) (by rw [iI_toInt (by omega), c_1]; rfl) (by decide) ?_
    refine lv_iload_n hx hb dMO_classBy_246 rfl (lv_at hl 1 rfl) ?_
    refine lz_if_ne (tgt := 255) hx hb dMO_classBy_247 (by decide) (by omega) (fun c_247 => ?_) (fun c_247 => ?_)
    · refine lv_iload_n hx hb dMO_classBy_255 rfl (lv_at hl 1 rfl) ?_
      refine lv_sipush (v := iI (15020)) hx hb dMO_classBy_256 (by decide) ?_
      refine lz_icmp_ne (tgt := 267) hx hb dMO_classBy_259 (by decide) (by omega) (by omega) (fun c_259 => ?_) (fun c_259 => ?_)
      · refine lv_iconst (v := iI (0)) hx hb dMO_classBy_267 rfl ?_
        exact hret 268 ls 0 (by unfold clsR; rw [c_1, if_neg (by decide), if_neg (by decide), if_neg (by decide), if_neg (by decide), if_neg (by decide), if_neg (by decide), if_neg (by decide), if_neg (by decide), if_pos rfl, if_neg c_247, if_neg c_259]) dMO_classBy_268
      · refine lv_bipush (v := iI (15)) hx hb dMO_classBy_262 (by decide) ?_
        refine lv_goto (tgt := 268) hx hb dMO_classBy_264 (by decide) ?_
        exact hret 268 ls 15 (by unfold clsR; rw [c_1, if_neg (by decide), if_neg (by decide), if_neg (by decide), if_neg (by decide), if_neg (by decide), if_neg (by decide), if_neg (by decide), if_neg (by decide), if_pos rfl, if_neg c_247, if_pos c_259]) dMO_classBy_268
    · refine lv_bipush (v := iI (12)) hx hb dMO_classBy_250 (by decide) ?_
      refine lv_goto (tgt := 268) hx hb dMO_classBy_252 (by decide) ?_
      exact hret 268 ls 12 (by unfold clsR; rw [c_1, if_neg (by decide), if_neg (by decide), if_neg (by decide), if_neg (by decide), if_neg (by decide), if_neg (by decide), if_neg (by decide), if_neg (by decide), if_pos rfl, if_pos c_247]) dMO_classBy_268
  · refine lv_lookup (tgt := 386) (off := 385) hx hb dMO_classBy_1 (by decide) (by rw [iI_toInt (by omega), c_1]; rfl) (by decide) ?_
    refine lv_iload_n hx hb dMO_classBy_386 rfl (lv_at hl 1 rfl) ?_
    refine lz_if_ne (tgt := 395) hx hb dMO_classBy_387 (by decide) (by omega) (fun c_387 => ?_) (fun c_387 => ?_)
    · refine lv_iload_n hx hb dMO_classBy_395 rfl (lv_at hl 1 rfl) ?_
      refine lv_sipush (v := iI (17202)) hx hb dMO_classBy_396 (by decide) ?_
      refine lz_icmp_ne (tgt := 407) hx hb dMO_classBy_399 (by decide) (by omega) (by omega) (fun c_399 => ?_) (fun c_399 => ?_)
      · refine lv_iconst (v := iI (0)) hx hb dMO_classBy_407 rfl ?_
        exact hret 408 ls 0 (by unfold clsR; rw [c_1, if_neg (by decide), if_neg (by decide), if_neg (by decide), if_neg (by decide), if_neg (by decide), if_neg (by decide), if_neg (by decide), if_neg (by decide), if_neg (by decide), if_pos rfl, if_neg c_387, if_neg c_399]) dMO_classBy_408
      · refine lv_bipush (v := iI (27)) hx hb dMO_classBy_402 (by decide) ?_
        refine lv_goto (tgt := 408) hx hb dMO_classBy_404 (by decide) ?_
        exact hret 408 ls 27 (by unfold clsR; rw [c_1, if_neg (by decide), if_neg (by decide), if_neg (by decide), if_neg (by decide), if_neg (by decide), if_neg (by decide), if_neg (by decide), if_neg (by decide), if_neg (by decide), if_pos rfl, if_neg c_387, if_pos c_399]) dMO_classBy_408
    · refine lv_bipush (v := iI (24)) hx hb dMO_classBy_390 (by decide) ?_
      refine lv_goto (tgt := 408) hx hb dMO_classBy_392 (by decide) ?_
      exact hret 408 ls 24 (by unfold clsR; rw [c_1, if_neg (by decide), if_neg (by decide), if_neg (by decide), if_neg (by decide), if_neg (by decide), if_neg (by decide), if_neg (by decide), if_neg (by decide), if_neg (by decide), if_pos rfl, if_pos c_387]) dMO_classBy_408
  · refine lv_lookup (tgt := 444) (off := 443) hx hb dMO_classBy_1 (by decide) (by rw [iI_toInt (by omega), c_1]; rfl) (by decide) ?_
    refine lv_iload_n hx hb dMO_classBy_444 rfl (lv_at hl 1 rfl) ?_
    refine lz_if_ne (tgt := 453) hx hb dMO_classBy_445 (by decide) (by omega) (fun c_445 => ?_) (fun c_445 => ?_)
    · refine lv_iload_n hx hb dMO_classBy_453 rfl (lv_at hl 1 rfl) ?_
      refine lv_sipush (v := iI (19860)) hx hb dMO_classBy_454 (by decide) ?_
      refine lz_icmp_ne (tgt := 465) hx hb dMO_classBy_457 (by decide) (by omega) (by omega) (fun c_457 => ?_) (fun c_457 => ?_)
      · refine lv_iconst (v := iI (0)) hx hb dMO_classBy_465 rfl ?_
        exact hret 466 ls 0 (by unfold clsR; rw [c_1, if_neg (by decide), if_neg (by decide), if_neg (by decide), if_neg (by decide), if_neg (by decide), if_neg (by decide), if_neg (by decide), if_neg (by decide), if_neg (by decide), if_neg (by decide), if_pos rfl, if_neg c_445, if_neg c_457]) dMO_classBy_466
      · refine lv_bipush (v := iI (32)) hx hb dMO_classBy_460 (by decide) ?_
        refine lv_goto (tgt := 466) hx hb dMO_classBy_462 (by decide) ?_
        exact hret 466 ls 32 (by unfold clsR; rw [c_1, if_neg (by decide), if_neg (by decide), if_neg (by decide), if_neg (by decide), if_neg (by decide), if_neg (by decide), if_neg (by decide), if_neg (by decide), if_neg (by decide), if_neg (by decide), if_pos rfl, if_neg c_445, if_pos c_457]) dMO_classBy_466
    · refine lv_bipush (v := iI (30)) hx hb dMO_classBy_448 (by decide) ?_
      refine lv_goto (tgt := 466) hx hb dMO_classBy_450 (by decide) ?_
      exact hret 466 ls 30 (by unfold clsR; rw [c_1, if_neg (by decide), if_neg (by decide), if_neg (by decide), if_neg (by decide), if_neg (by decide), if_neg (by decide), if_neg (by decide), if_neg (by decide), if_neg (by decide), if_neg (by decide), if_pos rfl, if_pos c_445]) dMO_classBy_466
  · refine lv_lookup (tgt := 467) (off := 466) hx hb dMO_classBy_1 (by decide) (by rw [iI_toInt (by omega)]; simp [Op.lookupswitch.offset, c_1]; omega) (by decide) ?_
    refine lv_iconst (v := iI (0)) hx hb dMO_classBy_467 rfl ?_
    exact hret 468 ls 0 (by unfold clsR; rw [if_neg c_1.1, if_neg c_1.2.1, if_neg c_1.2.2.1, if_neg c_1.2.2.2.1, if_neg c_1.2.2.2.2.1, if_neg c_1.2.2.2.2.2.1, if_neg c_1.2.2.2.2.2.2.1, if_neg c_1.2.2.2.2.2.2.2.1, if_neg c_1.2.2.2.2.2.2.2.2.1, if_neg c_1.2.2.2.2.2.2.2.2.2.1, if_neg c_1.2.2.2.2.2.2.2.2.2.2]) dMO_classBy_468

def rmMO_classOf : Room := { frames := 2, cells := 0, slots := 0, locals := 44 }
set_option maxHeartbeats 4000000 in
set_option maxRecDepth 100000 in
theorem mMO_classOf (l : Launch) (D : va_G) (cI cJ cZ : ClassId) (q : MoA) (cn gn ln : Int) (ao N : Nat) (fo : Nat → Int) (fr : Nat) (ks : List Int) (fa ga fs : Nat → Int) (hln : ks.length ≤ 192) (he : emb fo fr ks) (hN : fr + ks.length ≤ N ∧ N ≤ 7680) (hk : ∀ x ∈ ks, kOK x) (hd : ∀ x ∈ ks, detF (mdg x) = 1 ∨ detF (mdg x) = -1) : zI l yMO_classOf wMO_classOf rmMO_classOf D vwCl (zM cI cJ cZ) [.ref q.mo, .ref ao, .int (iI (fr : Int)), .int (iI (ks.length : Int))] [(moC q cn gn ln), (ao, .inl (cI, N, .inl (zf fo))), (q.xa, .inl (cI, 9, .inl (zf fa))), (q.ya, .inl (cI, 3, .inl (zf ga))), (q.xs, .inl (cI, 13, .inl (zf fs)))] (S := ((Nat → Int) × (Nat → Int) × (Nat → Int))) (fun z u => z = clsR (aT ks ks.length) (bT ks ks.length)) (fun u => [(moC q cn gn ln), (ao, .inl (cI, N, .inl (zf fo))), (q.xa, .inl (cI, 9, .inl (zf u.1))), (q.ya, .inl (cI, 3, .inl (zf u.2.1))), (q.xs, .inl (cI, 13, .inl (zf u.2.2)))]) := by
  refine zI.of (cc := cMO_classOf) (maxL := 7) (rt := .int) (by decide) rfl (Nat.le_of_ble_eq_true rfl) (fun _ _ _ => rfl) ?_
  intro p e s m args below meth c A ls Q hx hb hml hown hts hnm hK hD hA hAe hX hl hret H locs hP hS
  have hl : lv_has ls 7 [(0, .ref q.mo), (1, .ref ao), (2, .int (iI (fr : Int))), (3, .int (iI (ks.length : Int)))] := hl
  refine lv_iconst (v := iI (0)) hx hb dMO_classOf_0 rfl ?_
  refine lv_istore (lv' := [(4, .int (iI 0)), (0, .ref q.mo), (1, .ref ao), (2, .int (iI (fr : Int))), (3, .int (iI (ks.length : Int)))]) hx hb dMO_classOf_1 hl (by decide) rfl (fun ls hl => ?_)
  have lp3 : ∀ (n9 : Nat) (i : Nat) (f1 : Nat → Int), (i ≤ 13) → (∀ t, t < i → f1 t = 0) → (13 - i) < n9 → ∀ (H : Heap) (locs : List Loc), va_P D vwCl [(moC q cn gn ln), (ao, .inl (cI, N, .inl (zf fo))), (q.xa, .inl (cI, 9, .inl (zf fa))), (q.ya, .inl (cI, 3, .inl (zf ga))), (q.xs, .inl (cI, 13, .inl (zf f1)))] H → va_D A [(moC q cn gn ln), (ao, .inl (cI, N, .inl (zf fo))), (q.xa, .inl (cI, 9, .inl (zf fa))), (q.ya, .inl (cI, 3, .inl (zf ga))), (q.xs, .inl (cI, 13, .inl (zf f1)))] → va_S A s.heap H locs → ∀ (ls : Array Slot), lv_has ls 7 [(0, .ref q.mo), (1, .ref ao), (2, .int (iI (fr : Int))), (3, .int (iI (ks.length : Int))), (4, .int (iI (i : Int)))] → W p l e (headSpec wMO_classOf rmMO_classOf).room s m args below meth c H locs 0 0 Q (F0 m 3 ls []) := by
    intro n9
    induction n9 with
    | zero => intro i f1 hi h1 hm; exact absurd hm (Nat.not_lt_zero _)
    | succ n9 ih3 =>
      intro i f1 hi h1 hm3 H locs hP hD hS ls hl
      refine lv_iload hx hb dMO_classOf_3 (lv_at hl 4 rfl) ?_
      refine lv_bipush (v := iI (13)) hx hb dMO_classOf_5 (by decide) ?_
      refine lz_icmp_ge (tgt := 24) hx hb dMO_classOf_7 (by decide) (by omega) (by omega) (fun c_7 => ?_) (fun c_7 => ?_)
      · have hz0 : ∀ t, t < 13 → f1 t = 0 := fun t ht => h1 t (by omega)
        refine lv_iconst (v := iI (-1)) hx hb dMO_classOf_24 rfl ?_
        refine lv_istore (lv' := [(4, .int (iI (-1))), (0, .ref q.mo), (1, .ref ao), (2, .int (iI (fr : Int))), (3, .int (iI (ks.length : Int)))]) hx hb dMO_classOf_25 hl (by decide) rfl (fun ls hl => ?_)
        refine lv_iconst (v := iI (0)) hx hb dMO_classOf_27 rfl ?_
        refine lv_istore (lv' := [(5, .int (iI 0)), (4, .int (iI (-1))), (0, .ref q.mo), (1, .ref ao), (2, .int (iI (fr : Int))), (3, .int (iI (ks.length : Int)))]) hx hb dMO_classOf_28 hl (by decide) rfl (fun ls hl => ?_)
        rw [show (-1) = bef ks 0 from rfl] at hl
        have lp30 : ∀ (n9 : Nat) (i : Nat) (fa2 ga2 f2 : Nat → Int), (i ≤ ks.length) → (∀ t : Nat, t < 13 → f2 t = soC ks ((t : Int) - 6) i) → (ks.length - i) < n9 → ∀ (H : Heap) (locs : List Loc), va_P D vwCl [(moC q cn gn ln), (ao, .inl (cI, N, .inl (zf fo))), (q.xa, .inl (cI, 9, .inl (zf fa2))), (q.ya, .inl (cI, 3, .inl (zf ga2))), (q.xs, .inl (cI, 13, .inl (zf f2)))] H → va_D A [(moC q cn gn ln), (ao, .inl (cI, N, .inl (zf fo))), (q.xa, .inl (cI, 9, .inl (zf fa2))), (q.ya, .inl (cI, 3, .inl (zf ga2))), (q.xs, .inl (cI, 13, .inl (zf f2)))] → va_S A s.heap H locs → ∀ (ls : Array Slot), lv_has ls 7 [(0, .ref q.mo), (1, .ref ao), (2, .int (iI (fr : Int))), (3, .int (iI (ks.length : Int))), (4, .int (iI (bef ks i))), (5, .int (iI (i : Int)))] → W p l e (headSpec wMO_classOf rmMO_classOf).room s m args below meth c H locs 0 0 Q (F0 m 30 ls []) := by
          intro n9
          induction n9 with
          | zero => intro i fa2 ga2 f2 hi h2 hm; exact absurd hm (Nat.not_lt_zero _)
          | succ n9 ih30 =>
            intro i fa2 ga2 f2 hi h2 hm30 H locs hP hD hS ls hl
            have hbf : -1 ≤ bef ks i ∧ bef ks i < 100000 := by
              unfold bef
              split
              · omega
              · have := hk _ (getD_mem (ks := ks) (j := i - 1) (by omega))
                unfold kOK at this
                omega
            refine lv_iload hx hb dMO_classOf_30 (lv_at hl 5 rfl) ?_
            refine lv_iload_n hx hb dMO_classOf_32 rfl (lv_at hl 3 rfl) ?_
            refine lz_icmp_ge (tgt := 108) hx hb dMO_classOf_33 (by decide) (by omega) (by omega) (fun c_33 => ?_) (fun c_33 => ?_)
            · refine lv_sipush (v := iI (1000)) hx hb dMO_classOf_108 (by decide) ?_
              refine lv_aload_n hx hb dMO_classOf_111 rfl (lv_at hl 0 rfl) ?_
              refine va_get (D := D) (ci := 7) (v := .ref q.xs) (C := nMO) (T := fMO) (N := 24) hx hb hts iwMO hown hK hP 0 rfl rfl 20 (by decide) (hts _ (List.mem_cons_of_mem _ lkMO_64)) (fun _ h9 => h9) rfl dMO_classOf_112 ?_
              refine lv_bipush (v := iI (8)) hx hb dMO_classOf_115 (by decide) ?_
              refine lz_ialk hx hb hK hP 4 0 rfl rfl (z := 8) 8 rfl (by omega) dMO_classOf_117 ?_
              refine lz_as (x := f2 8) (y := soC ks 2 ks.length) (by rw [h2 8 (by omega), show i = ks.length by omega]; rfl) ?_
              refine lz_imul hx hb dMO_classOf_118 ?_
              refine lv_bipush (v := iI (100)) hx hb dMO_classOf_119 (by decide) ?_
              refine lv_aload_n hx hb dMO_classOf_121 rfl (lv_at hl 0 rfl) ?_
              refine va_get (D := D) (ci := 7) (v := .ref q.xs) (C := nMO) (T := fMO) (N := 24) hx hb hts iwMO hown hK hP 0 rfl rfl 20 (by decide) (hts _ (List.mem_cons_of_mem _ lkMO_64)) (fun _ h9 => h9) rfl dMO_classOf_122 ?_
              refine lv_bipush (v := iI (9)) hx hb dMO_classOf_125 (by decide) ?_
              refine lz_ialk hx hb hK hP 4 0 rfl rfl (z := 9) 9 rfl (by omega) dMO_classOf_127 ?_
              refine lz_as (x := f2 9) (y := soC ks 3 ks.length) (by rw [h2 9 (by omega), show i = ks.length by omega]; rfl) ?_
              refine lz_imul hx hb dMO_classOf_128 ?_
              refine lz_iadd hx hb dMO_classOf_129 ?_
              refine lv_bipush (v := iI (10)) hx hb dMO_classOf_130 (by decide) ?_
              refine lv_aload_n hx hb dMO_classOf_132 rfl (lv_at hl 0 rfl) ?_
              refine va_get (D := D) (ci := 7) (v := .ref q.xs) (C := nMO) (T := fMO) (N := 24) hx hb hts iwMO hown hK hP 0 rfl rfl 20 (by decide) (hts _ (List.mem_cons_of_mem _ lkMO_64)) (fun _ h9 => h9) rfl dMO_classOf_133 ?_
              refine lv_bipush (v := iI (10)) hx hb dMO_classOf_136 (by decide) ?_
              refine lz_ialk hx hb hK hP 4 0 rfl rfl (z := 10) 10 rfl (by omega) dMO_classOf_138 ?_
              refine lz_as (x := f2 10) (y := soC ks 4 ks.length) (by rw [h2 10 (by omega), show i = ks.length by omega]; rfl) ?_
              refine lz_imul hx hb dMO_classOf_139 ?_
              refine lz_iadd hx hb dMO_classOf_140 ?_
              refine lv_aload_n hx hb dMO_classOf_141 rfl (lv_at hl 0 rfl) ?_
              refine va_get (D := D) (ci := 7) (v := .ref q.xs) (C := nMO) (T := fMO) (N := 24) hx hb hts iwMO hown hK hP 0 rfl rfl 20 (by decide) (hts _ (List.mem_cons_of_mem _ lkMO_64)) (fun _ h9 => h9) rfl dMO_classOf_142 ?_
              refine lv_bipush (v := iI (12)) hx hb dMO_classOf_145 (by decide) ?_
              refine lz_ialk hx hb hK hP 4 0 rfl rfl (z := 12) 12 rfl (by omega) dMO_classOf_147 ?_
              refine lz_as (x := f2 12) (y := soC ks 6 ks.length) (by rw [h2 12 (by omega), show i = ks.length by omega]; rfl) ?_
              refine lz_iadd hx hb dMO_classOf_148 ?_
              refine lv_istore (lv' := [(5, .int (iI ((((1000 * (soC ks 2 ks.length)) + (100 * (soC ks 3 ks.length))) + (10 * (soC ks 4 ks.length))) + (soC ks 6 ks.length)))), (0, .ref q.mo), (1, .ref ao), (2, .int (iI (fr : Int))), (3, .int (iI (ks.length : Int))), (4, .int (iI (bef ks i)))]) hx hb dMO_classOf_149 hl (by decide) rfl (fun ls hl => ?_)
              refine lv_sipush (v := iI (10000)) hx hb dMO_classOf_151 (by decide) ?_
              refine lv_aload_n hx hb dMO_classOf_154 rfl (lv_at hl 1 rfl) ?_
              refine va_get (D := D) (ci := 7) (v := .ref q.xs) (C := nMO) (T := fMO) (N := 24) hx hb hts iwMO hown hK hP 0 rfl rfl 20 (by decide) (hts _ (List.mem_cons_of_mem _ lkMO_64)) (fun _ h9 => h9) rfl dMO_classOf_155 ?_
              refine lv_iconst (v := iI (5)) hx hb dMO_classOf_158 rfl ?_
              refine lz_ialk hx hb hK hP 4 0 rfl rfl (z := 5) 5 rfl (by omega) dMO_classOf_159 ?_
              refine lz_as (x := f2 5) (y := soC ks (-1) ks.length) (by rw [h2 5 (by omega), show i = ks.length by omega]; rfl) ?_
              refine lz_imul hx hb dMO_classOf_160 ?_
              refine lv_sipush (v := iI (1000)) hx hb dMO_classOf_161 (by decide) ?_
              refine lv_aload_n hx hb dMO_classOf_164 rfl (lv_at hl 1 rfl) ?_
              refine va_get (D := D) (ci := 7) (v := .ref q.xs) (C := nMO) (T := fMO) (N := 24) hx hb hts iwMO hown hK hP 0 rfl rfl 20 (by decide) (hts _ (List.mem_cons_of_mem _ lkMO_64)) (fun _ h9 => h9) rfl dMO_classOf_165 ?_
              refine lv_iconst (v := iI (4)) hx hb dMO_classOf_168 rfl ?_
              refine lz_ialk hx hb hK hP 4 0 rfl rfl (z := 4) 4 rfl (by omega) dMO_classOf_169 ?_
              refine lz_as (x := f2 4) (y := soC ks (-2) ks.length) (by rw [h2 4 (by omega), show i = ks.length by omega]; rfl) ?_
              refine lz_imul hx hb dMO_classOf_170 ?_
              refine lz_iadd hx hb dMO_classOf_171 ?_
              refine lv_bipush (v := iI (100)) hx hb dMO_classOf_172 (by decide) ?_
              refine lv_aload_n hx hb dMO_classOf_174 rfl (lv_at hl 1 rfl) ?_
              refine va_get (D := D) (ci := 7) (v := .ref q.xs) (C := nMO) (T := fMO) (N := 24) hx hb hts iwMO hown hK hP 0 rfl rfl 20 (by decide) (hts _ (List.mem_cons_of_mem _ lkMO_64)) (fun _ h9 => h9) rfl dMO_classOf_175 ?_
              refine lv_iconst (v := iI (3)) hx hb dMO_classOf_178 rfl ?_
              refine lz_ialk hx hb hK hP 4 0 rfl rfl (z := 3) 3 rfl (by omega) dMO_classOf_179 ?_
              refine lz_as (x := f2 3) (y := soC ks (-3) ks.length) (by rw [h2 3 (by omega), show i = ks.length by omega]; rfl) ?_
              refine lz_imul hx hb dMO_classOf_180 ?_
              refine lz_iadd hx hb dMO_classOf_181 ?_
              refine lv_bipush (v := iI (10)) hx hb dMO_classOf_182 (by decide) ?_
              refine lv_aload_n hx hb dMO_classOf_184 rfl (lv_at hl 1 rfl) ?_
              refine va_get (D := D) (ci := 7) (v := .ref q.xs) (C := nMO) (T := fMO) (N := 24) hx hb hts iwMO hown hK hP 0 rfl rfl 20 (by decide) (hts _ (List.mem_cons_of_mem _ lkMO_64)) (fun _ h9 => h9) rfl dMO_classOf_185 ?_
              refine lv_iconst (v := iI (2)) hx hb dMO_classOf_188 rfl ?_
              refine lz_ialk hx hb hK hP 4 0 rfl rfl (z := 2) 2 rfl (by omega) dMO_classOf_189 ?_
              refine lz_as (x := f2 2) (y := soC ks (-4) ks.length) (by rw [h2 2 (by omega), show i = ks.length by omega]; rfl) ?_
              refine lz_imul hx hb dMO_classOf_190 ?_
              refine lz_iadd hx hb dMO_classOf_191 ?_
              refine lv_aload_n hx hb dMO_classOf_192 rfl (lv_at hl 1 rfl) ?_
              refine va_get (D := D) (ci := 7) (v := .ref q.xs) (C := nMO) (T := fMO) (N := 24) hx hb hts iwMO hown hK hP 0 rfl rfl 20 (by decide) (hts _ (List.mem_cons_of_mem _ lkMO_64)) (fun _ h9 => h9) rfl dMO_classOf_193 ?_
              refine lv_iconst (v := iI (0)) hx hb dMO_classOf_196 rfl ?_
              refine lz_ialk hx hb hK hP 4 0 rfl rfl (z := 0) 0 rfl (by omega) dMO_classOf_197 ?_
              refine lz_as (x := f2 0) (y := soC ks (-6) ks.length) (by rw [h2 0 (by omega), show i = ks.length by omega]; rfl) ?_
              refine lz_iadd hx hb dMO_classOf_198 ?_
              refine lv_istore (lv' := [(6, .int (iI (((((10000 * (soC ks (-1) ks.length)) + (1000 * (soC ks (-2) ks.length))) + (100 * (soC ks (-3) ks.length))) + (10 * (soC ks (-4) ks.length))) + (soC ks (-6) ks.length)))), (5, .int (iI ((((1000 * (soC ks 2 ks.length)) + (100 * (soC ks 3 ks.length))) + (10 * (soC ks 4 ks.length))) + (soC ks 6 ks.length)))), (0, .ref q.mo), (1, .ref ao), (2, .int (iI (fr : Int))), (3, .int (iI (ks.length : Int))), (4, .int (iI (bef ks i)))]) hx hb dMO_classOf_199 hl (by decide) rfl (fun ls hl => ?_)
              refine lv_iload hx hb dMO_classOf_201 (lv_at hl 1 rfl) ?_
              refine lv_iload hx hb dMO_classOf_203 (lv_at hl 0 rfl) ?_
              refine zRI.back ((va_runS (As := [.int (iI ((((1000 * (soC ks 2 ks.length)) + (100 * (soC ks 3 ks.length))) + (10 * (soC ks 4 ks.length))) + (soC ks 6 ks.length))), .int (iI (((((10000 * (soC ks (-1) ks.length)) + (1000 * (soC ks (-2) ks.length))) + (100 * (soC ks (-3) ks.length))) + (10 * (soC ks (-4) ks.length))) + (soC ks (-6) ks.length)))]) (rest := []) ⟨hx, hb, hml, hown, hts⟩ (mMO_classBy l D cI cJ cZ (aT ks ks.length) (bT ks ks.length) (ab_rng ks hln).1 (ab_rng ks hln).2) (va_cwS 2 hts (gT1 lkMO_116 (gT1 smMO_classBy (gT1 iniMO (gTW kcMO_classBy)))) rfl rfl rfl (by decide +kernel) ⟨Nat.le_of_ble_eq_true rfl, Nat.le_of_ble_eq_true rfl⟩) ⟨zRd_blind, zRd.at (wc := []) hK (hP.sub (ws' := []) [] rfl) (stF.now hX hS)⟩ rfl rfl hl.1 rfl (lv_room (Nat.le_of_ble_eq_true rfl)) dMO_classOf_205 ⟨Nat.le_of_ble_eq_true rfl, Nat.le_of_ble_eq_true rfl⟩).run) (fun z_205 q_205 => ?_)
              exact hret H locs 0 0 208 ls z_205 (fa2, ga2, f2) q_205 (hP.sub [0, 1, 2, 3, 4] rfl) (hD.sub [0, 1, 2, 3, 4] (by decide) rfl) hS (Nat.zero_le _) (Nat.zero_le _) dMO_classOf_208
            · have hkk := hk _ (getD_mem (ks := ks) (j := i) (by omega))
              have hkb := hkk
              unfold kOK at hkb
              have hdd := hd _ (getD_mem (ks := ks) (j := i) (by omega))
              have hsr := sort_rng (ks.getD i (-1))
              refine lv_aload_n hx hb dMO_classOf_36 rfl (lv_at hl 1 rfl) ?_
              refine lv_iload_n hx hb dMO_classOf_37 rfl (lv_at hl 2 rfl) ?_
              refine lv_iload hx hb dMO_classOf_38 (lv_at hl 5 rfl) ?_
              refine lz_iadd hx hb dMO_classOf_40 ?_
              refine lz_ialk hx hb hK hP 1 0 rfl rfl (z := (fr : Int) + (i : Int)) (fr + i) (by omega) (by omega) dMO_classOf_41 ?_
              refine lz_as (x := fo (fr + i)) (y := ks.getD i (-1)) (he _ (by omega)) ?_
              refine lv_sipush (v := iI (13824)) hx hb dMO_classOf_42 (by decide) ?_
              refine lz_idiv hx hb dMO_classOf_45 (by omega) (by omega) ?_
              refine lv_iload hx hb dMO_classOf_46 (lv_at hl 4 rfl) ?_
              refine lz_icmp_ne (tgt := 54) hx hb dMO_classOf_48 (by decide) (by omega) (by omega) (fun c_48 => ?_) (fun c_48 => ?_)
              · refine lv_aload_n hx hb dMO_classOf_54 rfl (lv_at hl 1 rfl) ?_
                refine lv_iload_n hx hb dMO_classOf_55 rfl (lv_at hl 2 rfl) ?_
                refine lv_iload hx hb dMO_classOf_56 (lv_at hl 5 rfl) ?_
                refine lz_iadd hx hb dMO_classOf_58 ?_
                refine lz_ialk hx hb hK hP 1 0 rfl rfl (z := (fr : Int) + (i : Int)) (fr + i) (by omega) (by omega) dMO_classOf_59 ?_
                refine lz_as (x := fo (fr + i)) (y := ks.getD i (-1)) (he _ (by omega)) ?_
                refine lv_sipush (v := iI (13824)) hx hb dMO_classOf_60 (by decide) ?_
                refine lz_idiv hx hb dMO_classOf_63 (by omega) (by omega) ?_
                refine lv_istore (lv' := [(4, .int (iI ((ks.getD i (-1)) / 13824))), (0, .ref q.mo), (1, .ref ao), (2, .int (iI (fr : Int))), (3, .int (iI (ks.length : Int))), (5, .int (iI (i : Int)))]) hx hb dMO_classOf_64 hl (by decide) rfl (fun ls hl => ?_)
                refine lv_aload_n hx hb dMO_classOf_66 rfl (lv_at hl 2 rfl) ?_
                refine lv_iload_n hx hb dMO_classOf_67 rfl (lv_at hl 3 rfl) ?_
                refine lv_iload hx hb dMO_classOf_68 (lv_at hl 5 rfl) ?_
                refine lz_iadd hx hb dMO_classOf_70 ?_
                refine lz_ialk hx hb hK hP 1 0 rfl rfl (z := (fr : Int) + (i : Int)) (fr + i) (by omega) (by omega) dMO_classOf_71 ?_
                refine lz_as (x := fo (fr + i)) (y := ks.getD i (-1)) (he _ (by omega)) ?_
                refine lv_aload_n hx hb dMO_classOf_72 rfl (lv_at hl 1 rfl) ?_
                refine va_get (D := D) (ci := 7) (v := .ref q.xa) (C := nMO) (T := fMO) (N := 24) hx hb hts iwMO hown hK hP 0 rfl rfl 0 (by decide) (hts _ (List.mem_cons_of_mem _ lkMO_7)) (fun _ h9 => h9) rfl dMO_classOf_73 ?_
                refine lv_aload_n hx hb dMO_classOf_76 rfl (lv_at hl 1 rfl) ?_
                refine va_get (D := D) (ci := 7) (v := .ref q.ya) (C := nMO) (T := fMO) (N := 24) hx hb hts iwMO hown hK hP 0 rfl rfl 1 (by decide) (hts _ (List.mem_cons_of_mem _ lkMO_13)) (fun _ h9 => h9) rfl dMO_classOf_77 ?_
                refine zV.back (va_runS (As := [.int (iI (ks.getD i (-1))), .ref q.xa, .ref q.ya]) (rest := []) ⟨hx, hb, hml, hown, hts⟩ ((mMO_open l D cI cJ cZ (ks.getD i (-1)) q.xa q.ya fa2 ga2 hkk) H.size) (va_cwS 3 hts (gT1 lkMO_76 (gT1 smMO_open (gT1 iniMO (gTW kcMO_open)))) rfl rfl rfl (by decide +kernel) ⟨Nat.le_of_ble_eq_true rfl, Nat.le_of_ble_eq_true rfl⟩) ⟨zPre_blind, zPre.at (wc := [(q.xa, .inl (cI, 9, .inl (zf fa2))), (q.ya, .inl (cI, 3, .inl (zf ga2)))]) hK hP hD hS hA hX [2, 3] (by decide) rfl⟩ rfl rfl hl.1 rfl (lv_room (Nat.le_of_ble_eq_true rfl)) dMO_classOf_80 ⟨Nat.le_of_ble_eq_true rfl, Nat.le_of_ble_eq_true rfl⟩) (wr := [(moC q cn gn ln), (ao, .inl (cI, N, .inl (zf fo))), (q.xs, .inl (cI, 13, .inl (zf f2)))]) hP hD hS hA [2, 3] [0, 1, 4] rfl rfl (by decide) (by decide) (fun u_80 H locs q_80 hP hD hS hz_80 hk_80 => ?_)
                obtain ⟨f3, g3⟩ := u_80
                obtain ⟨hf3, hg3⟩ := q_80
                have hf3 : ∀ j, j < 9 → f3 j = mdg (ks.getD i (-1)) j := hf3
                have hg3 : ∀ j, j < 3 → g3 j = sdg (ks.getD i (-1)) j := hg3
                have hP : va_P D vwCl [(moC q cn gn ln), (ao, .inl (cI, N, .inl (zf fo))), (q.xs, .inl (cI, 13, .inl (zf f2))), (q.xa, .inl (cI, 9, .inl (zf f3))), (q.ya, .inl (cI, 3, .inl (zf g3)))] H := hP
                have hD : va_D A [(moC q cn gn ln), (ao, .inl (cI, N, .inl (zf fo))), (q.xs, .inl (cI, 13, .inl (zf f2))), (q.xa, .inl (cI, 9, .inl (zf f3))), (q.ya, .inl (cI, 3, .inl (zf g3)))] := hD
                refine lv_aload_n hx hb dMO_classOf_83 rfl (lv_at hl 1 rfl) ?_
                refine va_get (D := D) (ci := 7) (v := .ref q.xs) (C := nMO) (T := fMO) (N := 24) hx hb hts iwMO hown hK hP 0 rfl rfl 20 (by decide) (hts _ (List.mem_cons_of_mem _ lkMO_64)) (fun _ h9 => h9) rfl dMO_classOf_84 ?_
                refine lv_bipush (v := iI (6)) hx hb dMO_classOf_87 (by decide) ?_
                refine lv_aload_n hx hb dMO_classOf_89 rfl (lv_at hl 1 rfl) ?_
                refine va_get (D := D) (ci := 7) (v := .ref q.xa) (C := nMO) (T := fMO) (N := 24) hx hb hts iwMO hown hK hP 0 rfl rfl 0 (by decide) (hts _ (List.mem_cons_of_mem _ lkMO_7)) (fun _ h9 => h9) rfl dMO_classOf_90 ?_
                refine zRI.back ((va_runS (As := [.ref q.xa]) (rest := [.int (iI 6), .ref q.xs]) ⟨hx, hb, hml, hown, hts⟩ (mMO_sortOf l D cI cJ cZ q.xa f3 (ks.getD i (-1)) hf3) (va_cwS 1 hts (gT1 lkMO_113 (gT1 smMO_sortOf (gT1 iniMO (gTW kcMO_sortOf)))) rfl rfl rfl (by decide +kernel) ⟨Nat.le_of_ble_eq_true rfl, Nat.le_of_ble_eq_true rfl⟩) ⟨zRd_blind, zRd.at (wc := [(q.xa, .inl (cI, 9, .inl (zf f3)))]) hK (hP.sub (ws' := [(q.xa, .inl (cI, 9, .inl (zf f3)))]) [3] rfl) (stF.now hX hS)⟩ rfl rfl hl.1 rfl (lv_room (Nat.le_of_ble_eq_true rfl)) dMO_classOf_93 ⟨Nat.le_of_ble_eq_true rfl, Nat.le_of_ble_eq_true rfl⟩).run) (fun z_93 q_93 => ?_)
                obtain rfl : z_93 = sortK (ks.getD i (-1)) := q_93.trans (sortR_eq hdd)
                refine lz_iadd hx hb dMO_classOf_96 ?_
                refine lv_dup2_11 hx hb dMO_classOf_97 rfl rfl ?_
                refine lz_ialk hx hb hK hP 2 0 rfl rfl (z := 6 + (sortK (ks.getD i (-1)))) ((6 + sortK (ks.getD i (-1))).toNat) (by omega) (by omega) dMO_classOf_98 ?_
                refine lv_iconst (v := iI (1)) hx hb dMO_classOf_99 rfl ?_
                refine lz_iadd hx hb dMO_classOf_100 ?_
                refine lz_iask hx hb hK hP hD hS 2 0 rfl rfl (z := 6 + (sortK (ks.getD i (-1)))) (v := (f2 ((6 + sortK (ks.getD i (-1))).toNat)) + 1) ((6 + sortK (ks.getD i (-1))).toNat) (by omega) (by omega) dMO_classOf_101 (fun H locs hP hD hS => ?_)
                have hP : va_P D vwCl [(moC q cn gn ln), (ao, .inl (cI, N, .inl (zf fo))), (q.xs, .inl (cI, 13, .inl (zf (zu f2 ((6 + sortK (ks.getD i (-1))).toNat) ((f2 ((6 + sortK (ks.getD i (-1))).toNat)) + 1))))), (q.xa, .inl (cI, 9, .inl (zf f3))), (q.ya, .inl (cI, 3, .inl (zf g3)))] H := hP
                have hD : va_D A [(moC q cn gn ln), (ao, .inl (cI, N, .inl (zf fo))), (q.xs, .inl (cI, 13, .inl (zf (zu f2 ((6 + sortK (ks.getD i (-1))).toNat) ((f2 ((6 + sortK (ks.getD i (-1))).toNat)) + 1))))), (q.xa, .inl (cI, 9, .inl (zf f3))), (q.ya, .inl (cI, 3, .inl (zf g3)))] := hD
                refine lz_iinc (lv' := [(5, .int (iI ((i : Int) + 1))), (4, .int (iI ((ks.getD i (-1)) / 13824))), (0, .ref q.mo), (1, .ref ao), (2, .int (iI (fr : Int))), (3, .int (iI (ks.length : Int)))]) hx hb dMO_classOf_102 hl (k := 5) rfl (by decide) rfl (fun ls hl => ?_)
                refine lv_goto (tgt := 30) hx hb dMO_classOf_105 (by decide) ?_
                rw [show (ks.getD i (-1)) / 13824 = bef ks (i + 1) from (bef_s ks i).symm] at hl
                exact ih30 (i + 1) f3 g3 (zu f2 ((6 + sortK (ks.getD i (-1))).toNat) ((f2 ((6 + sortK (ks.getD i (-1))).toNat)) + 1)) (by omega) (fun t ht => by
                    show _ = soC ks ((t : Int) - 6) i + _
                    rw [if_neg c_48]
                    by_cases e : t = (6 + sortK (ks.getD i (-1))).toNat
                    · rw [e, zu_s, ← e, h2 t ht, if_pos (by omega)]
                    · rw [zu_n _ _ e, h2 t ht, if_neg (by omega)]; omega) (by omega) _ _ (hP.sub [0, 1, 3, 4, 2] rfl) (hD.sub [0, 1, 3, 4, 2] (by decide) rfl) hS _ (lv_sub hl [2, 3, 4, 5, 1, 0] rfl)
              · refine lv_goto (tgt := 102) hx hb dMO_classOf_51 (by decide) ?_
                refine lz_iinc (lv' := [(5, .int (iI ((i : Int) + 1))), (0, .ref q.mo), (1, .ref ao), (2, .int (iI (fr : Int))), (3, .int (iI (ks.length : Int))), (4, .int (iI (bef ks i)))]) hx hb dMO_classOf_102 hl (k := 5) rfl (by decide) rfl (fun ls hl => ?_)
                refine lv_goto (tgt := 30) hx hb dMO_classOf_105 (by decide) ?_
                rw [show bef ks i = bef ks (i + 1) from by rw [bef_s]; exact c_48.symm] at hl
                exact ih30 (i + 1) fa2 ga2 f2 (by omega) (fun t ht => by
                    rw [h2 t ht]
                    show _ = soC ks ((t : Int) - 6) i + _
                    rw [if_pos c_48]; omega) (by omega) _ _ (hP.sub [0, 1, 2, 3, 4] rfl) (hD.sub [0, 1, 2, 3, 4] (by decide) rfl) hS _ (lv_sub hl [1, 2, 3, 4, 5, 0] rfl)
        exact lp30 _ 0 fa ga f1 (by omega) (fun t ht => hz0 t ht) (Nat.lt_succ_self _) _ _ (hP.sub [0, 1, 2, 3, 4] rfl) (hD.sub [0, 1, 2, 3, 4] (by decide) rfl) hS _ (lv_sub hl [2, 3, 4, 5, 1, 0] rfl)
      · refine lv_aload_n hx hb dMO_classOf_10 rfl (lv_at hl 0 rfl) ?_
        refine va_get (D := D) (ci := 7) (v := .ref q.xs) (C := nMO) (T := fMO) (N := 24) hx hb hts iwMO hown hK hP 0 rfl rfl 20 (by decide) (hts _ (List.mem_cons_of_mem _ lkMO_64)) (fun _ h9 => h9) rfl dMO_classOf_11 ?_
        refine lv_iload hx hb dMO_classOf_14 (lv_at hl 4 rfl) ?_
        refine lv_iconst (v := iI (0)) hx hb dMO_classOf_16 rfl ?_
        refine lz_iask hx hb hK hP hD hS 4 0 rfl rfl (z := (i : Int)) (v := 0) i rfl (by omega) dMO_classOf_17 (fun H locs hP hD hS => ?_)
        have hP : va_P D vwCl [(moC q cn gn ln), (ao, .inl (cI, N, .inl (zf fo))), (q.xa, .inl (cI, 9, .inl (zf fa))), (q.ya, .inl (cI, 3, .inl (zf ga))), (q.xs, .inl (cI, 13, .inl (zf (zu f1 i 0))))] H := hP
        have hD : va_D A [(moC q cn gn ln), (ao, .inl (cI, N, .inl (zf fo))), (q.xa, .inl (cI, 9, .inl (zf fa))), (q.ya, .inl (cI, 3, .inl (zf ga))), (q.xs, .inl (cI, 13, .inl (zf (zu f1 i 0))))] := hD
        refine lz_iinc (lv' := [(4, .int (iI ((i : Int) + 1))), (0, .ref q.mo), (1, .ref ao), (2, .int (iI (fr : Int))), (3, .int (iI (ks.length : Int)))]) hx hb dMO_classOf_18 hl (k := 4) rfl (by decide) rfl (fun ls hl => ?_)
        refine lv_goto (tgt := 3) hx hb dMO_classOf_21 (by decide) ?_
        exact ih3 (i + 1) (zu f1 i 0) (by omega) (fun t ht => by
            by_cases e : t = i
            · rw [e, zu_s]
            · rw [zu_n _ _ e]; exact h1 t (by omega)) (by omega) _ _ (hP.sub [0, 1, 2, 3, 4] rfl) (hD.sub [0, 1, 2, 3, 4] (by decide) rfl) hS _ (lv_sub hl [1, 2, 3, 4, 0] rfl)
  exact lp3 _ 0 fs (by omega) (fun t ht => absurd ht (Nat.not_lt_zero _)) (Nat.lt_succ_self _) _ _ (hP.sub [0, 1, 2, 3, 4] rfl) (hD.sub [0, 1, 2, 3, 4] (by decide) rfl) hS _ (lv_sub hl [1, 2, 3, 4, 0] rfl)

def rmMO_matrices : Room := { frames := 0, cells := 0, slots := 0, locals := 0 }
set_option maxHeartbeats 4000000 in
set_option maxRecDepth 100000 in
theorem mMO_matrices (l : Launch) (D : va_G) (cI cJ cZ : ClassId) (q : MoA) (cn gn ln : Int) (g : Nat) (fm fz : Nat → Int) (ks : List Int) (hs : ks.Pairwise (· < ·)) (hln : 0 < ks.length ∧ ks.length ≤ 192) (he : emb fm (192 * g) ks) (hz : fz g = (ks.length : Int)) (hg : g < 40) (hk : ∀ x ∈ ks, 0 ≤ x ∧ x < 2147483648) : zRI l yMO_matrices wMO_matrices rmMO_matrices D vwCl (zM cI cJ cZ) [.ref q.mo, .int (iI (g : Int))] [(moC q cn gn ln), (q.xm, .inl (cI, 7680, .inl (zf fm))), (q.xz, .inl (cI, 40, .inl (zf fz)))] (fun z => z = matT ks ks.length) := by
  refine zRI.of (cc := cMO_matrices) (maxL := 4) (rt := .int) (by decide) rfl (Nat.le_of_ble_eq_true rfl) (fun _ _ => rfl) ?_
  intro p e s m args below meth c ls Q hx hb hml hown hts hK hP hX hl hret
  have hS0 : va_S (fun _ => False) s.heap s.heap [] := va_S.rf
  have hl : lv_has ls 4 [(0, .ref q.mo), (1, .int (iI (g : Int)))] := hl
  refine lv_iconst (v := iI (1)) hx hb dMO_matrices_0 rfl ?_
  refine lv_istore_n (lv' := [(2, .int (iI 1)), (0, .ref q.mo), (1, .int (iI (g : Int)))]) hx hb dMO_matrices_1 rfl hl (by decide) rfl (fun ls hl => ?_)
  refine lv_iconst (v := iI (1)) hx hb dMO_matrices_2 rfl ?_
  refine lv_istore_n (lv' := [(3, .int (iI 1)), (2, .int (iI 1)), (0, .ref q.mo), (1, .int (iI (g : Int)))]) hx hb dMO_matrices_3 rfl hl (by decide) rfl (fun ls hl => ?_)
  have e1 := matT_1 (ks := ks) (by have := hk _ (getD_mem (ks := ks) (j := 0) (by omega)); omega)
  have hl : lv_has ls 4 [(3, .int (iI ((1 : Nat) : Int))), (2, .int (iI (matT ks 1))), (0, .ref q.mo), (1, .int (iI (g : Int)))] := by rw [e1]; exact hl
  have lp4 : ∀ (n9 : Nat) (i : Nat), (1 ≤ i ∧ i ≤ ks.length) → (ks.length - i) < n9 → ∀ (ls : Array Slot), lv_has ls 4 [(0, .ref q.mo), (1, .int (iI (g : Int))), (2, .int (iI (matT ks i))), (3, .int (iI (i : Int)))] → W p l e (headSpec wMO_matrices rmMO_matrices).room s m args below meth c s.heap [] 0 0 Q (F0 m 4 ls []) := by
    intro n9
    induction n9 with
    | zero => intro i hi hm; exact absurd hm (Nat.not_lt_zero _)
    | succ n9 ih4 =>
      intro i hi hm4 ls hl
      refine lv_iload_n hx hb dMO_matrices_4 rfl (lv_at hl 3 rfl) ?_
      refine lv_aload_n hx hb dMO_matrices_5 rfl (lv_at hl 0 rfl) ?_
      refine va_get (D := D) (ci := 7) (v := .ref q.xz) (C := nMO) (T := fMO) (N := 24) hx hb hts iwMO hown hK hP 0 rfl rfl 7 (by decide) (hts _ (List.mem_cons_of_mem _ lkMO_28)) (fun _ h9 => h9) rfl dMO_matrices_6 ?_
      refine lv_iload_n hx hb dMO_matrices_9 rfl (lv_at hl 1 rfl) ?_
      refine lz_ialk hx hb hK hP 2 0 rfl rfl (z := (g : Int)) g rfl (by omega) dMO_matrices_10 ?_
      refine lz_as (x := fz g) (y := (ks.length : Int)) (hz) ?_
      refine lz_icmp_ge (tgt := 65) hx hb dMO_matrices_11 (by decide) (by omega) (by omega) (fun c_11 => ?_) (fun c_11 => ?_)
      · refine lv_iload_n hx hb dMO_matrices_65 rfl (lv_at hl 2 rfl) ?_
        exact hret 66 ls (matT ks i) (by rw [show i = ks.length by omega]) dMO_matrices_66
      · refine lv_iload_n hx hb dMO_matrices_14 rfl (lv_at hl 2 rfl) ?_
        refine lv_aload_n hx hb dMO_matrices_15 rfl (lv_at hl 0 rfl) ?_
        refine va_get (D := D) (ci := 7) (v := .ref q.xm) (C := nMO) (T := fMO) (N := 24) hx hb hts iwMO hown hK hP 0 rfl rfl 6 (by decide) (hts _ (List.mem_cons_of_mem _ lkMO_25)) (fun _ h9 => h9) rfl dMO_matrices_16 ?_
        refine lv_sipush (v := iI (192)) hx hb dMO_matrices_19 (by decide) ?_
        refine lv_iload_n hx hb dMO_matrices_22 rfl (lv_at hl 1 rfl) ?_
        refine lz_imul hx hb dMO_matrices_23 ?_
        refine lv_iload_n hx hb dMO_matrices_24 rfl (lv_at hl 3 rfl) ?_
        refine lz_iadd hx hb dMO_matrices_25 ?_
        refine lz_ialk hx hb hK hP 1 0 rfl rfl (z := (192 * (g : Int)) + (i : Int)) (192 * g + i) (by omega) (by omega) dMO_matrices_26 ?_
        refine lz_as (x := fm (192 * g + i)) (y := ks.getD i (-1)) (he _ (by omega)) ?_
        refine lv_sipush (v := iI (13824)) hx hb dMO_matrices_27 (by decide) ?_
        refine lz_idiv hx hb dMO_matrices_30 (by have := hk _ (getD_mem (ks := ks) (j := i) (by omega)); omega) (by omega) ?_
        refine lv_aload_n hx hb dMO_matrices_31 rfl (lv_at hl 0 rfl) ?_
        refine va_get (D := D) (ci := 7) (v := .ref q.xm) (C := nMO) (T := fMO) (N := 24) hx hb hts iwMO hown hK hP 0 rfl rfl 6 (by decide) (hts _ (List.mem_cons_of_mem _ lkMO_25)) (fun _ h9 => h9) rfl dMO_matrices_32 ?_
        refine lv_sipush (v := iI (192)) hx hb dMO_matrices_35 (by decide) ?_
        refine lv_iload_n hx hb dMO_matrices_38 rfl (lv_at hl 1 rfl) ?_
        refine lz_imul hx hb dMO_matrices_39 ?_
        refine lv_iload_n hx hb dMO_matrices_40 rfl (lv_at hl 3 rfl) ?_
        refine lz_iadd hx hb dMO_matrices_41 ?_
        refine lv_iconst (v := iI (1)) hx hb dMO_matrices_42 rfl ?_
        refine lz_isub hx hb dMO_matrices_43 ?_
        refine lz_ialk hx hb hK hP 1 0 rfl rfl (z := ((192 * (g : Int)) + (i : Int)) - 1) (192 * g + (i - 1)) (by omega) (by omega) dMO_matrices_44 ?_
        refine lz_as (x := fm (192 * g + (i - 1))) (y := ks.getD (i - 1) (-1)) (he _ (by omega)) ?_
        refine lv_sipush (v := iI (13824)) hx hb dMO_matrices_45 (by decide) ?_
        refine lz_idiv hx hb dMO_matrices_48 (by have := hk _ (getD_mem (ks := ks) (j := i - 1) (by omega)); omega) (by omega) ?_
        refine lz_icmp_eq (tgt := 56) hx hb dMO_matrices_49 (by decide) (by have := hk _ (getD_mem (ks := ks) (j := i) (by omega)); omega) (by have := hk _ (getD_mem (ks := ks) (j := i - 1) (by omega)); omega) (fun c_49 => ?_) (fun c_49 => ?_)
        · refine lv_iconst (v := iI (0)) hx hb dMO_matrices_56 rfl ?_
          refine lz_iadd hx hb dMO_matrices_57 ?_
          refine lv_istore_n (lv' := [(2, .int (iI ((matT ks i) + 0))), (0, .ref q.mo), (1, .int (iI (g : Int))), (3, .int (iI (i : Int)))]) hx hb dMO_matrices_58 rfl hl (by decide) rfl (fun ls hl => ?_)
          refine lz_iinc (lv' := [(3, .int (iI ((i : Int) + 1))), (2, .int (iI ((matT ks i) + 0))), (0, .ref q.mo), (1, .int (iI (g : Int)))]) hx hb dMO_matrices_59 hl (k := 3) rfl (by decide) rfl (fun ls hl => ?_)
          refine lv_goto (tgt := 4) hx hb dMO_matrices_62 (by decide) ?_
          rw [show (matT ks i) + 0 = matT ks (i + 1) from by show _ = matT ks i + _; rw [if_pos (by unfold bef; rw [if_neg (by omega)]; exact c_49)]] at hl
          exact ih4 (i + 1) (by omega) (by omega) _ (lv_sub hl [2, 3, 1, 0] rfl)
        · refine lv_iconst (v := iI (1)) hx hb dMO_matrices_52 rfl ?_
          refine lv_goto (tgt := 57) hx hb dMO_matrices_53 (by decide) ?_
          refine lz_iadd hx hb dMO_matrices_57 ?_
          refine lv_istore_n (lv' := [(2, .int (iI ((matT ks i) + 1))), (0, .ref q.mo), (1, .int (iI (g : Int))), (3, .int (iI (i : Int)))]) hx hb dMO_matrices_58 rfl hl (by decide) rfl (fun ls hl => ?_)
          refine lz_iinc (lv' := [(3, .int (iI ((i : Int) + 1))), (2, .int (iI ((matT ks i) + 1))), (0, .ref q.mo), (1, .int (iI (g : Int)))]) hx hb dMO_matrices_59 hl (k := 3) rfl (by decide) rfl (fun ls hl => ?_)
          refine lv_goto (tgt := 4) hx hb dMO_matrices_62 (by decide) ?_
          rw [show (matT ks i) + 1 = matT ks (i + 1) from by show _ = matT ks i + _; rw [if_neg (by unfold bef; rw [if_neg (by omega)]; exact c_49)]] at hl
          exact ih4 (i + 1) (by omega) (by omega) _ (lv_sub hl [2, 3, 1, 0] rfl)
  exact lp4 _ 1 (by omega) (Nat.lt_succ_self _) _ (lv_sub hl [2, 3, 1, 0] rfl)

def rmMO_centrings : Room := { frames := 1, cells := 0, slots := 0, locals := 21 }
set_option maxHeartbeats 4000000 in
set_option maxRecDepth 100000 in
theorem mMO_centrings (l : Launch) (D : va_G) (cI cJ cZ : ClassId) (q : MoA) (cn gn ln : Int) (g : Nat) (fm fz : Nat → Int) (ks : List Int) (hs : ks.Pairwise (· < ·)) (hln : 0 < ks.length ∧ ks.length ≤ 192) (he : emb fm (192 * g) ks) (hz : fz g = (ks.length : Int)) (hg : g < 40) (hk : ∀ x ∈ ks, 0 ≤ x ∧ x < 2147483648) : zRI l yMO_centrings wMO_centrings rmMO_centrings D vwCl (zM cI cJ cZ) [.ref q.mo, .int (iI (g : Int))] [(moC q cn gn ln), (q.xm, .inl (cI, 7680, .inl (zf fm))), (q.xz, .inl (cI, 40, .inl (zf fz)))] (fun z => z = cenT ks ks.length) := by
  refine zRI.of (cc := cMO_centrings) (maxL := 5) (rt := .int) (by decide) rfl (Nat.le_of_ble_eq_true rfl) (fun _ _ => rfl) ?_
  intro p e s m args below meth c ls Q hx hb hml hown hts hK hP hX hl hret
  have hS0 : va_S (fun _ => False) s.heap s.heap [] := va_S.rf
  have hl : lv_has ls 5 [(0, .ref q.mo), (1, .int (iI (g : Int)))] := hl
  refine lv_iconst (v := iI (0)) hx hb dMO_centrings_0 rfl ?_
  refine lv_istore_n (lv' := [(2, .int (iI 0)), (0, .ref q.mo), (1, .int (iI (g : Int)))]) hx hb dMO_centrings_1 rfl hl (by decide) rfl (fun ls hl => ?_)
  refine zRI.back ((va_runS (As := []) (rest := []) ⟨hx, hb, hml, hown, hts⟩ (mMO_identity l D cI cJ cZ) (va_cwS 0 hts (gT1 lkMO_98 (gT1 smMO_identity (gT1 iniMO (gTW kcMO_identity)))) rfl rfl rfl (by decide +kernel) ⟨Nat.le_of_ble_eq_true rfl, Nat.le_of_ble_eq_true rfl⟩) ⟨zRd_blind, zRd.at (wc := []) hK (hP.sub (ws' := []) [] rfl) hX⟩ rfl rfl hl.1 rfl (lv_room (Nat.le_of_ble_eq_true rfl)) dMO_centrings_2 ⟨Nat.le_of_ble_eq_true rfl, Nat.le_of_ble_eq_true rfl⟩).run) (fun z_2 q_2 => ?_)
  obtain rfl : z_2 = u0 := q_2
  refine lv_sipush (v := iI (13824)) hx hb dMO_centrings_5 (by decide) ?_
  refine lz_idiv hx hb dMO_centrings_8 (by decide) (by decide) ?_
  refine lz_as (x := u0 / 13824) (y := 16484) (rfl) ?_
  refine lv_istore_n (lv' := [(3, .int (iI 16484)), (2, .int (iI 0)), (0, .ref q.mo), (1, .int (iI (g : Int)))]) hx hb dMO_centrings_9 rfl hl (by decide) rfl (fun ls hl => ?_)
  refine lv_iconst (v := iI (0)) hx hb dMO_centrings_10 rfl ?_
  refine lv_istore (lv' := [(4, .int (iI 0)), (3, .int (iI 16484)), (2, .int (iI 0)), (0, .ref q.mo), (1, .int (iI (g : Int)))]) hx hb dMO_centrings_11 hl (by decide) rfl (fun ls hl => ?_)
  have lp13 : ∀ (n9 : Nat) (i : Nat), (i ≤ ks.length) → (ks.length - i) < n9 → ∀ (ls : Array Slot), lv_has ls 5 [(0, .ref q.mo), (1, .int (iI (g : Int))), (2, .int (iI (cenT ks i))), (3, .int (iI 16484)), (4, .int (iI (i : Int)))] → W p l e (headSpec wMO_centrings rmMO_centrings).room s m args below meth c s.heap [] 0 0 Q (F0 m 13 ls []) := by
    intro n9
    induction n9 with
    | zero => intro i hi hm; exact absurd hm (Nat.not_lt_zero _)
    | succ n9 ih13 =>
      intro i hi hm13 ls hl
      refine lv_iload hx hb dMO_centrings_13 (lv_at hl 4 rfl) ?_
      refine lv_aload_n hx hb dMO_centrings_15 rfl (lv_at hl 0 rfl) ?_
      refine va_get (D := D) (ci := 7) (v := .ref q.xz) (C := nMO) (T := fMO) (N := 24) hx hb hts iwMO hown hK hP 0 rfl rfl 7 (by decide) (hts _ (List.mem_cons_of_mem _ lkMO_28)) (fun _ h9 => h9) rfl dMO_centrings_16 ?_
      refine lv_iload_n hx hb dMO_centrings_19 rfl (lv_at hl 1 rfl) ?_
      refine lz_ialk hx hb hK hP 2 0 rfl rfl (z := (g : Int)) g rfl (by omega) dMO_centrings_20 ?_
      refine lz_as (x := fz g) (y := (ks.length : Int)) (hz) ?_
      refine lz_icmp_ge (tgt := 59) hx hb dMO_centrings_21 (by decide) (by omega) (by omega) (fun c_21 => ?_) (fun c_21 => ?_)
      · refine lv_iload_n hx hb dMO_centrings_59 rfl (lv_at hl 2 rfl) ?_
        exact hret 60 ls (cenT ks i) (by rw [show i = ks.length by omega]) dMO_centrings_60
      · refine lv_iload_n hx hb dMO_centrings_24 rfl (lv_at hl 2 rfl) ?_
        refine lv_aload_n hx hb dMO_centrings_25 rfl (lv_at hl 0 rfl) ?_
        refine va_get (D := D) (ci := 7) (v := .ref q.xm) (C := nMO) (T := fMO) (N := 24) hx hb hts iwMO hown hK hP 0 rfl rfl 6 (by decide) (hts _ (List.mem_cons_of_mem _ lkMO_25)) (fun _ h9 => h9) rfl dMO_centrings_26 ?_
        refine lv_sipush (v := iI (192)) hx hb dMO_centrings_29 (by decide) ?_
        refine lv_iload_n hx hb dMO_centrings_32 rfl (lv_at hl 1 rfl) ?_
        refine lz_imul hx hb dMO_centrings_33 ?_
        refine lv_iload hx hb dMO_centrings_34 (lv_at hl 4 rfl) ?_
        refine lz_iadd hx hb dMO_centrings_36 ?_
        refine lz_ialk hx hb hK hP 1 0 rfl rfl (z := (192 * (g : Int)) + (i : Int)) (192 * g + i) (by omega) (by omega) dMO_centrings_37 ?_
        refine lz_as (x := fm (192 * g + i)) (y := ks.getD i (-1)) (he _ (by omega)) ?_
        refine lv_sipush (v := iI (13824)) hx hb dMO_centrings_38 (by decide) ?_
        refine lz_idiv hx hb dMO_centrings_41 (by have := hk _ (getD_mem (ks := ks) (j := i) (by omega)); omega) (by omega) ?_
        refine lv_iload_n hx hb dMO_centrings_42 rfl (lv_at hl 3 rfl) ?_
        refine lz_icmp_ne (tgt := 50) hx hb dMO_centrings_43 (by decide) (by have := hk _ (getD_mem (ks := ks) (j := i) (by omega)); omega) (by omega) (fun c_43 => ?_) (fun c_43 => ?_)
        · refine lv_iconst (v := iI (0)) hx hb dMO_centrings_50 rfl ?_
          refine lz_iadd hx hb dMO_centrings_51 ?_
          refine lv_istore_n (lv' := [(2, .int (iI ((cenT ks i) + 0))), (0, .ref q.mo), (1, .int (iI (g : Int))), (3, .int (iI 16484)), (4, .int (iI (i : Int)))]) hx hb dMO_centrings_52 rfl hl (by decide) rfl (fun ls hl => ?_)
          refine lz_iinc (lv' := [(4, .int (iI ((i : Int) + 1))), (2, .int (iI ((cenT ks i) + 0))), (0, .ref q.mo), (1, .int (iI (g : Int))), (3, .int (iI 16484))]) hx hb dMO_centrings_53 hl (k := 4) rfl (by decide) rfl (fun ls hl => ?_)
          refine lv_goto (tgt := 13) hx hb dMO_centrings_56 (by decide) ?_
          rw [show (cenT ks i) + 0 = cenT ks (i + 1) from by show _ = cenT ks i + _; rw [if_neg c_43]] at hl
          exact ih13 (i + 1) (by omega) (by omega) _ (lv_sub hl [2, 3, 1, 4, 0] rfl)
        · refine lv_iconst (v := iI (1)) hx hb dMO_centrings_46 rfl ?_
          refine lv_goto (tgt := 51) hx hb dMO_centrings_47 (by decide) ?_
          refine lz_iadd hx hb dMO_centrings_51 ?_
          refine lv_istore_n (lv' := [(2, .int (iI ((cenT ks i) + 1))), (0, .ref q.mo), (1, .int (iI (g : Int))), (3, .int (iI 16484)), (4, .int (iI (i : Int)))]) hx hb dMO_centrings_52 rfl hl (by decide) rfl (fun ls hl => ?_)
          refine lz_iinc (lv' := [(4, .int (iI ((i : Int) + 1))), (2, .int (iI ((cenT ks i) + 1))), (0, .ref q.mo), (1, .int (iI (g : Int))), (3, .int (iI 16484))]) hx hb dMO_centrings_53 hl (k := 4) rfl (by decide) rfl (fun ls hl => ?_)
          refine lv_goto (tgt := 13) hx hb dMO_centrings_56 (by decide) ?_
          rw [show (cenT ks i) + 1 = cenT ks (i + 1) from by show _ = cenT ks i + _; rw [if_pos c_43]] at hl
          exact ih13 (i + 1) (by omega) (by omega) _ (lv_sub hl [2, 3, 1, 4, 0] rfl)
  exact lp13 _ 0 (by omega) (Nat.lt_succ_self _) _ (lv_sub hl [3, 4, 2, 1, 0] rfl)

def rmMO_hasShift : Room := { frames := 1, cells := 0, slots := 0, locals := 25 }
set_option maxHeartbeats 4000000 in
set_option maxRecDepth 100000 in
theorem mMO_hasShift (l : Launch) (D : va_G) (cI cJ cZ : ClassId) (q : MoA) (cn gn ln : Int) (g : Nat) (fm fz : Nat → Int) (ks : List Int) (sh : Int) (hs : ks.Pairwise (· < ·)) (hln : 0 < ks.length ∧ ks.length ≤ 192) (he : emb fm (192 * g) ks) (hz : fz g = (ks.length : Int)) (hg : g < 40) (hk : ∀ x ∈ ks, 0 ≤ x ∧ x < 2147483648) (hsh : 0 ≤ sh ∧ sh < 13824) : zRI l yMO_hasShift wMO_hasShift rmMO_hasShift D vwCl (zM cI cJ cZ) [.ref q.mo, .int (iI (g : Int)), .int (iI sh)] [(moC q cn gn ln), (q.xm, .inl (cI, 7680, .inl (zf fm))), (q.xz, .inl (cI, 40, .inl (zf fz)))] (fun z => (z = 1 ∧ mI ks sh = 1) ∨ (z = 0 ∧ mI ks sh = 0)) := by
  refine zRI.of (cc := cMO_hasShift) (maxL := 3) (rt := .boolean) (by decide) rfl (Nat.le_of_ble_eq_true rfl) (fun z h => by rcases h with ⟨rfl, _⟩ | ⟨rfl, _⟩ <;> decide) ?_
  intro p e s m args below meth c ls Q hx hb hml hown hts hK hP hX hl hret
  have hS0 : va_S (fun _ => False) s.heap s.heap [] := va_S.rf
  have hl : lv_has ls 3 [(0, .ref q.mo), (1, .int (iI (g : Int))), (2, .int (iI sh))] := hl
  refine lv_aload_n hx hb dMO_hasShift_0 rfl (lv_at hl 0 rfl) ?_
  refine lv_iload_n hx hb dMO_hasShift_1 rfl (lv_at hl 1 rfl) ?_
  refine zRI.back ((va_runS (As := []) (rest := [.int (iI (g : Int)), .ref q.mo]) ⟨hx, hb, hml, hown, hts⟩ (mMO_identity l D cI cJ cZ) (va_cwS 0 hts (gT1 lkMO_98 (gT1 smMO_identity (gT1 iniMO (gTW kcMO_identity)))) rfl rfl rfl (by decide +kernel) ⟨Nat.le_of_ble_eq_true rfl, Nat.le_of_ble_eq_true rfl⟩) ⟨zRd_blind, zRd.at (wc := []) hK (hP.sub (ws' := []) [] rfl) hX⟩ rfl rfl hl.1 rfl (lv_room (Nat.le_of_ble_eq_true rfl)) dMO_hasShift_2 ⟨Nat.le_of_ble_eq_true rfl, Nat.le_of_ble_eq_true rfl⟩).run) (fun z_2 q_2 => ?_)
  obtain rfl : z_2 = u0 := q_2
  refine lv_iload_n hx hb dMO_hasShift_5 rfl (lv_at hl 2 rfl) ?_
  refine lz_iadd hx hb dMO_hasShift_6 ?_
  refine zRI.back ((va_runV (As := [.int (iI (g : Int)), .int (iI (u0 + sh))]) (rest := []) ⟨hx, hb, hml, hown, hts⟩ (mMO_place l D cI cJ cZ q cn gn ln g fm fz ks (u0 + sh) hs hln he hz hg hk (by unfold u0; omega)) (cwV 2 hts (gT1 lkMO_119 (gT1 imMO_place (gT1 seMO_place (gT1 iniMO (gTW kcMO_place))))) rfl rfl rfl (by decide +kernel) ⟨Nat.le_of_ble_eq_true rfl, Nat.le_of_ble_eq_true rfl⟩) ⟨zRd_blind, va_recv hK hP (ci := 7) (q0 := 0) rfl rfl, zRd.at (wc := [(moC q cn gn ln), (q.xm, .inl (cI, 7680, .inl (zf fm))), (q.xz, .inl (cI, 40, .inl (zf fz)))]) hK (hP.sub (ws' := [(moC q cn gn ln), (q.xm, .inl (cI, 7680, .inl (zf fm))), (q.xz, .inl (cI, 40, .inl (zf fz)))]) [0, 1, 2] rfl) hX⟩ rfl rfl hl.1 rfl (lv_room (Nat.le_of_ble_eq_true rfl)) dMO_hasShift_7 ⟨Nat.le_of_ble_eq_true rfl, Nat.le_of_ble_eq_true rfl⟩).run) (fun z_7 q_7 => ?_)
  have q_7 : lix ks (u0 + sh) z_7 := q_7
  have hzr : -1 ≤ z_7 ∧ z_7 < 200 := by rcases q_7 with ⟨_, _, _, _⟩ | ⟨_, _⟩ <;> omega
  refine lv_iconst (v := iI (-1)) hx hb dMO_hasShift_10 rfl ?_
  refine lz_icmp_eq (tgt := 18) hx hb dMO_hasShift_11 (by decide) (by omega) (by omega) (fun c_11 => ?_) (fun c_11 => ?_)
  · refine lv_iconst (v := iI (0)) hx hb dMO_hasShift_18 rfl ?_
    exact hret 19 ls 0 (Or.inr ⟨rfl, if_neg (by rcases q_7 with ⟨_, _, _, _⟩ | ⟨q9, _⟩ <;> first | exact q9 | omega)⟩) dMO_hasShift_19
  · refine lv_iconst (v := iI (1)) hx hb dMO_hasShift_14 rfl ?_
    refine lv_goto (tgt := 19) hx hb dMO_hasShift_15 (by decide) ?_
    exact hret 19 ls 1 (Or.inl ⟨rfl, if_pos (by rcases q_7 with ⟨q9, _⟩ | ⟨_, q9⟩ <;> first | exact q9 | omega)⟩) dMO_hasShift_19

def rmMO_letterOf : Room := { frames := 2, cells := 0, slots := 0, locals := 47 }
set_option maxHeartbeats 4000000 in
set_option maxRecDepth 100000 in
theorem mMO_letterOf (l : Launch) (D : va_G) (cI cJ cZ : ClassId) (q : MoA) (cn gn ln : Int) (g : Nat) (fm fz : Nat → Int) (ks : List Int) (ce : Int) (hs : ks.Pairwise (· < ·)) (hln : 0 < ks.length ∧ ks.length ≤ 192) (he : emb fm (192 * g) ks) (hz : fz g = (ks.length : Int)) (hg : g < 40) (hk : ∀ x ∈ ks, 0 ≤ x ∧ x < 2147483648) (hce : -2147483648 ≤ ce ∧ ce < 2147483648) : zRI l yMO_letterOf wMO_letterOf rmMO_letterOf D vwCl (zM cI cJ cZ) [.ref q.mo, .int (iI (g : Int)), .int (iI ce)] [(moC q cn gn ln), (q.xm, .inl (cI, 7680, .inl (zf fm))), (q.xz, .inl (cI, 40, .inl (zf fz)))] (fun z => z = letR ks ce) := by
  refine zRI.of (cc := cMO_letterOf) (maxL := 6) (rt := .int) (by decide) rfl (Nat.le_of_ble_eq_true rfl) (fun _ _ => rfl) ?_
  intro p e s m args below meth c ls Q hx hb hml hown hts hK hP hX hl hret
  have hS0 : va_S (fun _ => False) s.heap s.heap [] := va_S.rf
  have hl : lv_has ls 6 [(0, .ref q.mo), (1, .int (iI (g : Int))), (2, .int (iI ce))] := hl
  refine lv_aload_n hx hb dMO_letterOf_0 rfl (lv_at hl 0 rfl) ?_
  refine lv_iload_n hx hb dMO_letterOf_1 rfl (lv_at hl 1 rfl) ?_
  refine lv_sipush (v := iI (300)) hx hb dMO_letterOf_2 (by decide) ?_
  refine zRI.back ((va_runV (As := [.int (iI (g : Int)), .int (iI 300)]) (rest := []) ⟨hx, hb, hml, hown, hts⟩ (mMO_hasShift l D cI cJ cZ q cn gn ln g fm fz ks 300 hs hln he hz hg hk (by decide)) (cwV 2 hts (gT1 lkMO_122 (gT1 imMO_hasShift (gT1 seMO_hasShift (gT1 iniMO (gTW kcMO_hasShift))))) rfl rfl rfl (by decide +kernel) ⟨Nat.le_of_ble_eq_true rfl, Nat.le_of_ble_eq_true rfl⟩) ⟨zRd_blind, va_recv hK hP (ci := 7) (q0 := 0) rfl rfl, zRd.at (wc := [(moC q cn gn ln), (q.xm, .inl (cI, 7680, .inl (zf fm))), (q.xz, .inl (cI, 40, .inl (zf fz)))]) hK (hP.sub (ws' := [(moC q cn gn ln), (q.xm, .inl (cI, 7680, .inl (zf fm))), (q.xz, .inl (cI, 40, .inl (zf fz)))]) [0, 1, 2] rfl) hX⟩ rfl rfl hl.1 rfl (lv_room (Nat.le_of_ble_eq_true rfl)) dMO_letterOf_5 ⟨Nat.le_of_ble_eq_true rfl, Nat.le_of_ble_eq_true rfl⟩).run) (fun z_5 q_5 => ?_)
  obtain rfl : z_5 = mI ks 300 := by rcases q_5 with ⟨a9, b9⟩ | ⟨a9, b9⟩ <;> rw [a9, b9]
  have hm_5 := mI_01 ks 300
  refine lv_istore_n (lv' := [(3, .int (iI (mI ks 300))), (0, .ref q.mo), (1, .int (iI (g : Int))), (2, .int (iI ce))]) hx hb dMO_letterOf_8 rfl hl (by decide) rfl (fun ls hl => ?_)
  refine lv_aload_n hx hb dMO_letterOf_9 rfl (lv_at hl 1 rfl) ?_
  refine lv_iload_n hx hb dMO_letterOf_10 rfl (lv_at hl 2 rfl) ?_
  refine lv_sipush (v := iI (6924)) hx hb dMO_letterOf_11 (by decide) ?_
  refine zRI.back ((va_runV (As := [.int (iI (g : Int)), .int (iI 6924)]) (rest := []) ⟨hx, hb, hml, hown, hts⟩ (mMO_hasShift l D cI cJ cZ q cn gn ln g fm fz ks 6924 hs hln he hz hg hk (by decide)) (cwV 2 hts (gT1 lkMO_122 (gT1 imMO_hasShift (gT1 seMO_hasShift (gT1 iniMO (gTW kcMO_hasShift))))) rfl rfl rfl (by decide +kernel) ⟨Nat.le_of_ble_eq_true rfl, Nat.le_of_ble_eq_true rfl⟩) ⟨zRd_blind, va_recv hK hP (ci := 7) (q0 := 0) rfl rfl, zRd.at (wc := [(moC q cn gn ln), (q.xm, .inl (cI, 7680, .inl (zf fm))), (q.xz, .inl (cI, 40, .inl (zf fz)))]) hK (hP.sub (ws' := [(moC q cn gn ln), (q.xm, .inl (cI, 7680, .inl (zf fm))), (q.xz, .inl (cI, 40, .inl (zf fz)))]) [0, 1, 2] rfl) hX⟩ rfl rfl hl.1 rfl (lv_room (Nat.le_of_ble_eq_true rfl)) dMO_letterOf_14 ⟨Nat.le_of_ble_eq_true rfl, Nat.le_of_ble_eq_true rfl⟩).run) (fun z_14 q_14 => ?_)
  obtain rfl : z_14 = mI ks 6924 := by rcases q_14 with ⟨a9, b9⟩ | ⟨a9, b9⟩ <;> rw [a9, b9]
  have hm_14 := mI_01 ks 6924
  refine lv_istore (lv' := [(4, .int (iI (mI ks 6924))), (3, .int (iI (mI ks 300))), (0, .ref q.mo), (1, .int (iI (g : Int))), (2, .int (iI ce))]) hx hb dMO_letterOf_17 hl (by decide) rfl (fun ls hl => ?_)
  refine lv_aload_n hx hb dMO_letterOf_19 rfl (lv_at hl 2 rfl) ?_
  refine lv_iload_n hx hb dMO_letterOf_20 rfl (lv_at hl 3 rfl) ?_
  refine lv_sipush (v := iI (7200)) hx hb dMO_letterOf_21 (by decide) ?_
  refine zRI.back ((va_runV (As := [.int (iI (g : Int)), .int (iI 7200)]) (rest := []) ⟨hx, hb, hml, hown, hts⟩ (mMO_hasShift l D cI cJ cZ q cn gn ln g fm fz ks 7200 hs hln he hz hg hk (by decide)) (cwV 2 hts (gT1 lkMO_122 (gT1 imMO_hasShift (gT1 seMO_hasShift (gT1 iniMO (gTW kcMO_hasShift))))) rfl rfl rfl (by decide +kernel) ⟨Nat.le_of_ble_eq_true rfl, Nat.le_of_ble_eq_true rfl⟩) ⟨zRd_blind, va_recv hK hP (ci := 7) (q0 := 0) rfl rfl, zRd.at (wc := [(moC q cn gn ln), (q.xm, .inl (cI, 7680, .inl (zf fm))), (q.xz, .inl (cI, 40, .inl (zf fz)))]) hK (hP.sub (ws' := [(moC q cn gn ln), (q.xm, .inl (cI, 7680, .inl (zf fm))), (q.xz, .inl (cI, 40, .inl (zf fz)))]) [0, 1, 2] rfl) hX⟩ rfl rfl hl.1 rfl (lv_room (Nat.le_of_ble_eq_true rfl)) dMO_letterOf_24 ⟨Nat.le_of_ble_eq_true rfl, Nat.le_of_ble_eq_true rfl⟩).run) (fun z_24 q_24 => ?_)
  obtain rfl : z_24 = mI ks 7200 := by rcases q_24 with ⟨a9, b9⟩ | ⟨a9, b9⟩ <;> rw [a9, b9]
  have hm_24 := mI_01 ks 7200
  refine lv_istore (lv' := [(5, .int (iI (mI ks 7200))), (4, .int (iI (mI ks 6924))), (3, .int (iI (mI ks 300))), (0, .ref q.mo), (1, .int (iI (g : Int))), (2, .int (iI ce))]) hx hb dMO_letterOf_27 hl (by decide) rfl (fun ls hl => ?_)
  refine lv_iload_n hx hb dMO_letterOf_29 rfl (lv_at hl 5 rfl) ?_
  refine lv_iconst (v := iI (1)) hx hb dMO_letterOf_30 rfl ?_
  refine lz_icmp_ne (tgt := 36) hx hb dMO_letterOf_31 (by decide) (by omega) (by omega) (fun c_31 => ?_) (fun c_31 => ?_)
  · refine lv_iload_n hx hb dMO_letterOf_36 rfl (lv_at hl 5 rfl) ?_
    refine lv_iconst (v := iI (2)) hx hb dMO_letterOf_37 rfl ?_
    refine lz_icmp_ne (tgt := 85) hx hb dMO_letterOf_38 (by decide) (by omega) (by omega) (fun c_38 => ?_) (fun c_38 => ?_)
    · refine lv_iload_n hx hb dMO_letterOf_85 rfl (lv_at hl 5 rfl) ?_
      refine lv_iconst (v := iI (4)) hx hb dMO_letterOf_86 rfl ?_
      refine lz_icmp_ne (tgt := 111) hx hb dMO_letterOf_87 (by decide) (by omega) (by omega) (fun c_87 => ?_) (fun c_87 => ?_)
      · refine lv_iload_n hx hb dMO_letterOf_111 rfl (lv_at hl 5 rfl) ?_
        refine lv_iconst (v := iI (3)) hx hb dMO_letterOf_112 rfl ?_
        refine lz_icmp_eq (tgt := 119) hx hb dMO_letterOf_113 (by decide) (by omega) (by omega) (fun c_113 => ?_) (fun c_113 => ?_)
        · refine lv_aload_n hx hb dMO_letterOf_119 rfl (lv_at hl 3 rfl) ?_
          refine lv_iload_n hx hb dMO_letterOf_120 rfl (lv_at hl 4 rfl) ?_
          refine lv_sipush (v := iI (5008)) hx hb dMO_letterOf_121 (by decide) ?_
          refine zRI.back ((va_runV (As := [.int (iI (g : Int)), .int (iI 5008)]) (rest := []) ⟨hx, hb, hml, hown, hts⟩ (mMO_hasShift l D cI cJ cZ q cn gn ln g fm fz ks 5008 hs hln he hz hg hk (by decide)) (cwV 2 hts (gT1 lkMO_122 (gT1 imMO_hasShift (gT1 seMO_hasShift (gT1 iniMO (gTW kcMO_hasShift))))) rfl rfl rfl (by decide +kernel) ⟨Nat.le_of_ble_eq_true rfl, Nat.le_of_ble_eq_true rfl⟩) ⟨zRd_blind, va_recv hK hP (ci := 7) (q0 := 0) rfl rfl, zRd.at (wc := [(moC q cn gn ln), (q.xm, .inl (cI, 7680, .inl (zf fm))), (q.xz, .inl (cI, 40, .inl (zf fz)))]) hK (hP.sub (ws' := [(moC q cn gn ln), (q.xm, .inl (cI, 7680, .inl (zf fm))), (q.xz, .inl (cI, 40, .inl (zf fz)))]) [0, 1, 2] rfl) hX⟩ rfl rfl hl.1 rfl (lv_room (Nat.le_of_ble_eq_true rfl)) dMO_letterOf_124 ⟨Nat.le_of_ble_eq_true rfl, Nat.le_of_ble_eq_true rfl⟩).run) (fun z_124 q_124 => ?_)
          obtain rfl : z_124 = mI ks 5008 := by rcases q_124 with ⟨a9, b9⟩ | ⟨a9, b9⟩ <;> rw [a9, b9]
          have hm_124 := mI_01 ks 5008
          refine lz_if_eq (tgt := 144) hx hb dMO_letterOf_127 (by decide) (by omega) (fun c_127 => ?_) (fun c_127 => ?_)
          · refine lv_aload_n hx hb dMO_letterOf_144 rfl (lv_at hl 3 rfl) ?_
            refine lv_iload_n hx hb dMO_letterOf_145 rfl (lv_at hl 4 rfl) ?_
            refine lv_sipush (v := iI (5000)) hx hb dMO_letterOf_146 (by decide) ?_
            refine zRI.back ((va_runV (As := [.int (iI (g : Int)), .int (iI 5000)]) (rest := []) ⟨hx, hb, hml, hown, hts⟩ (mMO_hasShift l D cI cJ cZ q cn gn ln g fm fz ks 5000 hs hln he hz hg hk (by decide)) (cwV 2 hts (gT1 lkMO_122 (gT1 imMO_hasShift (gT1 seMO_hasShift (gT1 iniMO (gTW kcMO_hasShift))))) rfl rfl rfl (by decide +kernel) ⟨Nat.le_of_ble_eq_true rfl, Nat.le_of_ble_eq_true rfl⟩) ⟨zRd_blind, va_recv hK hP (ci := 7) (q0 := 0) rfl rfl, zRd.at (wc := [(moC q cn gn ln), (q.xm, .inl (cI, 7680, .inl (zf fm))), (q.xz, .inl (cI, 40, .inl (zf fz)))]) hK (hP.sub (ws' := [(moC q cn gn ln), (q.xm, .inl (cI, 7680, .inl (zf fm))), (q.xz, .inl (cI, 40, .inl (zf fz)))]) [0, 1, 2] rfl) hX⟩ rfl rfl hl.1 rfl (lv_room (Nat.le_of_ble_eq_true rfl)) dMO_letterOf_149 ⟨Nat.le_of_ble_eq_true rfl, Nat.le_of_ble_eq_true rfl⟩).run) (fun z_149 q_149 => ?_)
            obtain rfl : z_149 = mI ks 5000 := by rcases q_149 with ⟨a9, b9⟩ | ⟨a9, b9⟩ <;> rw [a9, b9]
            have hm_149 := mI_01 ks 5000
            refine lz_if_eq (tgt := 171) hx hb dMO_letterOf_152 (by decide) (by omega) (fun c_152 => ?_) (fun c_152 => ?_)
            · refine lv_bipush (v := iI (8)) hx hb dMO_letterOf_171 (by decide) ?_
              exact hret 173 ls 8 (by
                    unfold letR
                    (repeat' (first | rw [if_pos (by assumption)] | rw [if_neg (by assumption)] | rw [if_neg (by omega)] | rw [if_pos (by omega)]))) dMO_letterOf_173
            · refine lv_aload_n hx hb dMO_letterOf_155 rfl (lv_at hl 3 rfl) ?_
              refine lv_iload_n hx hb dMO_letterOf_156 rfl (lv_at hl 4 rfl) ?_
              refine lv_sipush (v := iI (9424)) hx hb dMO_letterOf_157 (by decide) ?_
              refine zRI.back ((va_runV (As := [.int (iI (g : Int)), .int (iI 9424)]) (rest := []) ⟨hx, hb, hml, hown, hts⟩ (mMO_hasShift l D cI cJ cZ q cn gn ln g fm fz ks 9424 hs hln he hz hg hk (by decide)) (cwV 2 hts (gT1 lkMO_122 (gT1 imMO_hasShift (gT1 seMO_hasShift (gT1 iniMO (gTW kcMO_hasShift))))) rfl rfl rfl (by decide +kernel) ⟨Nat.le_of_ble_eq_true rfl, Nat.le_of_ble_eq_true rfl⟩) ⟨zRd_blind, va_recv hK hP (ci := 7) (q0 := 0) rfl rfl, zRd.at (wc := [(moC q cn gn ln), (q.xm, .inl (cI, 7680, .inl (zf fm))), (q.xz, .inl (cI, 40, .inl (zf fz)))]) hK (hP.sub (ws' := [(moC q cn gn ln), (q.xm, .inl (cI, 7680, .inl (zf fm))), (q.xz, .inl (cI, 40, .inl (zf fz)))]) [0, 1, 2] rfl) hX⟩ rfl rfl hl.1 rfl (lv_room (Nat.le_of_ble_eq_true rfl)) dMO_letterOf_160 ⟨Nat.le_of_ble_eq_true rfl, Nat.le_of_ble_eq_true rfl⟩).run) (fun z_160 q_160 => ?_)
              obtain rfl : z_160 = mI ks 9424 := by rcases q_160 with ⟨a9, b9⟩ | ⟨a9, b9⟩ <;> rw [a9, b9]
              have hm_160 := mI_01 ks 9424
              refine lz_if_eq (tgt := 171) hx hb dMO_letterOf_163 (by decide) (by omega) (fun c_163 => ?_) (fun c_163 => ?_)
              · refine lv_bipush (v := iI (8)) hx hb dMO_letterOf_171 (by decide) ?_
                exact hret 173 ls 8 (by
                      unfold letR
                      (repeat' (first | rw [if_pos (by assumption)] | rw [if_neg (by assumption)] | rw [if_neg (by omega)] | rw [if_pos (by omega)]))) dMO_letterOf_173
              · refine lv_bipush (v := iI (7)) hx hb dMO_letterOf_166 (by decide) ?_
                refine lv_goto (tgt := 173) hx hb dMO_letterOf_168 (by decide) ?_
                exact hret 173 ls 7 (by
                      unfold letR
                      (repeat' (first | rw [if_pos (by assumption)] | rw [if_neg (by assumption)] | rw [if_neg (by omega)] | rw [if_pos (by omega)]))) dMO_letterOf_173
          · refine lv_aload_n hx hb dMO_letterOf_130 rfl (lv_at hl 3 rfl) ?_
            refine lv_iload_n hx hb dMO_letterOf_131 rfl (lv_at hl 4 rfl) ?_
            refine lv_sipush (v := iI (9416)) hx hb dMO_letterOf_132 (by decide) ?_
            refine zRI.back ((va_runV (As := [.int (iI (g : Int)), .int (iI 9416)]) (rest := []) ⟨hx, hb, hml, hown, hts⟩ (mMO_hasShift l D cI cJ cZ q cn gn ln g fm fz ks 9416 hs hln he hz hg hk (by decide)) (cwV 2 hts (gT1 lkMO_122 (gT1 imMO_hasShift (gT1 seMO_hasShift (gT1 iniMO (gTW kcMO_hasShift))))) rfl rfl rfl (by decide +kernel) ⟨Nat.le_of_ble_eq_true rfl, Nat.le_of_ble_eq_true rfl⟩) ⟨zRd_blind, va_recv hK hP (ci := 7) (q0 := 0) rfl rfl, zRd.at (wc := [(moC q cn gn ln), (q.xm, .inl (cI, 7680, .inl (zf fm))), (q.xz, .inl (cI, 40, .inl (zf fz)))]) hK (hP.sub (ws' := [(moC q cn gn ln), (q.xm, .inl (cI, 7680, .inl (zf fm))), (q.xz, .inl (cI, 40, .inl (zf fz)))]) [0, 1, 2] rfl) hX⟩ rfl rfl hl.1 rfl (lv_room (Nat.le_of_ble_eq_true rfl)) dMO_letterOf_135 ⟨Nat.le_of_ble_eq_true rfl, Nat.le_of_ble_eq_true rfl⟩).run) (fun z_135 q_135 => ?_)
            obtain rfl : z_135 = mI ks 9416 := by rcases q_135 with ⟨a9, b9⟩ | ⟨a9, b9⟩ <;> rw [a9, b9]
            have hm_135 := mI_01 ks 9416
            refine lz_if_eq (tgt := 144) hx hb dMO_letterOf_138 (by decide) (by omega) (fun c_138 => ?_) (fun c_138 => ?_)
            · refine lv_aload_n hx hb dMO_letterOf_144 rfl (lv_at hl 3 rfl) ?_
              refine lv_iload_n hx hb dMO_letterOf_145 rfl (lv_at hl 4 rfl) ?_
              refine lv_sipush (v := iI (5000)) hx hb dMO_letterOf_146 (by decide) ?_
              refine zRI.back ((va_runV (As := [.int (iI (g : Int)), .int (iI 5000)]) (rest := []) ⟨hx, hb, hml, hown, hts⟩ (mMO_hasShift l D cI cJ cZ q cn gn ln g fm fz ks 5000 hs hln he hz hg hk (by decide)) (cwV 2 hts (gT1 lkMO_122 (gT1 imMO_hasShift (gT1 seMO_hasShift (gT1 iniMO (gTW kcMO_hasShift))))) rfl rfl rfl (by decide +kernel) ⟨Nat.le_of_ble_eq_true rfl, Nat.le_of_ble_eq_true rfl⟩) ⟨zRd_blind, va_recv hK hP (ci := 7) (q0 := 0) rfl rfl, zRd.at (wc := [(moC q cn gn ln), (q.xm, .inl (cI, 7680, .inl (zf fm))), (q.xz, .inl (cI, 40, .inl (zf fz)))]) hK (hP.sub (ws' := [(moC q cn gn ln), (q.xm, .inl (cI, 7680, .inl (zf fm))), (q.xz, .inl (cI, 40, .inl (zf fz)))]) [0, 1, 2] rfl) hX⟩ rfl rfl hl.1 rfl (lv_room (Nat.le_of_ble_eq_true rfl)) dMO_letterOf_149 ⟨Nat.le_of_ble_eq_true rfl, Nat.le_of_ble_eq_true rfl⟩).run) (fun z_149 q_149 => ?_)
              obtain rfl : z_149 = mI ks 5000 := by rcases q_149 with ⟨a9, b9⟩ | ⟨a9, b9⟩ <;> rw [a9, b9]
              have hm_149 := mI_01 ks 5000
              refine lz_if_eq (tgt := 171) hx hb dMO_letterOf_152 (by decide) (by omega) (fun c_152 => ?_) (fun c_152 => ?_)
              · refine lv_bipush (v := iI (8)) hx hb dMO_letterOf_171 (by decide) ?_
                exact hret 173 ls 8 (by
                      unfold letR
                      (repeat' (first | rw [if_pos (by assumption)] | rw [if_neg (by assumption)] | rw [if_neg (by omega)] | rw [if_pos (by omega)]))) dMO_letterOf_173
              · refine lv_aload_n hx hb dMO_letterOf_155 rfl (lv_at hl 3 rfl) ?_
                refine lv_iload_n hx hb dMO_letterOf_156 rfl (lv_at hl 4 rfl) ?_
                refine lv_sipush (v := iI (9424)) hx hb dMO_letterOf_157 (by decide) ?_
                refine zRI.back ((va_runV (As := [.int (iI (g : Int)), .int (iI 9424)]) (rest := []) ⟨hx, hb, hml, hown, hts⟩ (mMO_hasShift l D cI cJ cZ q cn gn ln g fm fz ks 9424 hs hln he hz hg hk (by decide)) (cwV 2 hts (gT1 lkMO_122 (gT1 imMO_hasShift (gT1 seMO_hasShift (gT1 iniMO (gTW kcMO_hasShift))))) rfl rfl rfl (by decide +kernel) ⟨Nat.le_of_ble_eq_true rfl, Nat.le_of_ble_eq_true rfl⟩) ⟨zRd_blind, va_recv hK hP (ci := 7) (q0 := 0) rfl rfl, zRd.at (wc := [(moC q cn gn ln), (q.xm, .inl (cI, 7680, .inl (zf fm))), (q.xz, .inl (cI, 40, .inl (zf fz)))]) hK (hP.sub (ws' := [(moC q cn gn ln), (q.xm, .inl (cI, 7680, .inl (zf fm))), (q.xz, .inl (cI, 40, .inl (zf fz)))]) [0, 1, 2] rfl) hX⟩ rfl rfl hl.1 rfl (lv_room (Nat.le_of_ble_eq_true rfl)) dMO_letterOf_160 ⟨Nat.le_of_ble_eq_true rfl, Nat.le_of_ble_eq_true rfl⟩).run) (fun z_160 q_160 => ?_)
                obtain rfl : z_160 = mI ks 9424 := by rcases q_160 with ⟨a9, b9⟩ | ⟨a9, b9⟩ <;> rw [a9, b9]
                have hm_160 := mI_01 ks 9424
                refine lz_if_eq (tgt := 171) hx hb dMO_letterOf_163 (by decide) (by omega) (fun c_163 => ?_) (fun c_163 => ?_)
                · refine lv_bipush (v := iI (8)) hx hb dMO_letterOf_171 (by decide) ?_
                  exact hret 173 ls 8 (by
                        unfold letR
                        (repeat' (first | rw [if_pos (by assumption)] | rw [if_neg (by assumption)] | rw [if_neg (by omega)] | rw [if_pos (by omega)]))) dMO_letterOf_173
                · refine lv_bipush (v := iI (7)) hx hb dMO_letterOf_166 (by decide) ?_
                  refine lv_goto (tgt := 173) hx hb dMO_letterOf_168 (by decide) ?_
                  exact hret 173 ls 7 (by
                        unfold letR
                        (repeat' (first | rw [if_pos (by assumption)] | rw [if_neg (by assumption)] | rw [if_neg (by omega)] | rw [if_pos (by omega)]))) dMO_letterOf_173
            · refine lv_bipush (v := iI (6)) hx hb dMO_letterOf_141 (by decide) ?_
              exact hret 143 ls 6 (by
                    unfold letR
                    (repeat' (first | rw [if_pos (by assumption)] | rw [if_neg (by assumption)] | rw [if_neg (by omega)] | rw [if_pos (by omega)]))) dMO_letterOf_143
        · refine lv_bipush (v := iI (8)) hx hb dMO_letterOf_116 (by decide) ?_
          exact hret 118 ls 8 (by
                unfold letR
                (repeat' (first | rw [if_pos (by assumption)] | rw [if_neg (by assumption)] | rw [if_neg (by omega)] | rw [if_pos (by omega)]))) dMO_letterOf_118
      · refine lv_iload_n hx hb dMO_letterOf_90 rfl (lv_at hl 2 rfl) ?_
        refine lz_if_eq (tgt := 108) hx hb dMO_letterOf_91 (by decide) (by omega) (fun c_91 => ?_) (fun c_91 => ?_)
        · refine lv_bipush (v := iI (8)) hx hb dMO_letterOf_108 (by decide) ?_
          exact hret 110 ls 8 (by
                unfold letR
                (repeat' (first | rw [if_pos (by assumption)] | rw [if_neg (by assumption)] | rw [if_neg (by omega)] | rw [if_pos (by omega)]))) dMO_letterOf_110
        · refine lv_iload hx hb dMO_letterOf_94 (lv_at hl 1 rfl) ?_
          refine lz_if_eq (tgt := 108) hx hb dMO_letterOf_96 (by decide) (by omega) (fun c_96 => ?_) (fun c_96 => ?_)
          · refine lv_bipush (v := iI (8)) hx hb dMO_letterOf_108 (by decide) ?_
            exact hret 110 ls 8 (by
                  unfold letR
                  (repeat' (first | rw [if_pos (by assumption)] | rw [if_neg (by assumption)] | rw [if_neg (by omega)] | rw [if_pos (by omega)]))) dMO_letterOf_110
          · refine lv_iload hx hb dMO_letterOf_99 (lv_at hl 0 rfl) ?_
            refine lz_if_eq (tgt := 108) hx hb dMO_letterOf_101 (by decide) (by omega) (fun c_101 => ?_) (fun c_101 => ?_)
            · refine lv_bipush (v := iI (8)) hx hb dMO_letterOf_108 (by decide) ?_
              exact hret 110 ls 8 (by
                    unfold letR
                    (repeat' (first | rw [if_pos (by assumption)] | rw [if_neg (by assumption)] | rw [if_neg (by omega)] | rw [if_pos (by omega)]))) dMO_letterOf_110
            · refine lv_iconst (v := iI (5)) hx hb dMO_letterOf_104 rfl ?_
              refine lv_goto (tgt := 110) hx hb dMO_letterOf_105 (by decide) ?_
              exact hret 110 ls 5 (by
                    unfold letR
                    (repeat' (first | rw [if_pos (by assumption)] | rw [if_neg (by assumption)] | rw [if_neg (by omega)] | rw [if_pos (by omega)]))) dMO_letterOf_110
    · refine lv_iload_n hx hb dMO_letterOf_41 rfl (lv_at hl 2 rfl) ?_
      refine lz_if_eq (tgt := 49) hx hb dMO_letterOf_42 (by decide) (by omega) (fun c_42 => ?_) (fun c_42 => ?_)
      · refine lv_iload hx hb dMO_letterOf_49 (lv_at hl 1 rfl) ?_
        refine lz_if_eq (tgt := 58) hx hb dMO_letterOf_51 (by decide) (by omega) (fun c_51 => ?_) (fun c_51 => ?_)
        · refine lv_iload hx hb dMO_letterOf_58 (lv_at hl 0 rfl) ?_
          refine lz_if_eq (tgt := 67) hx hb dMO_letterOf_60 (by decide) (by omega) (fun c_60 => ?_) (fun c_60 => ?_)
          · refine lv_aload_n hx hb dMO_letterOf_67 rfl (lv_at hl 3 rfl) ?_
            refine lv_iload_n hx hb dMO_letterOf_68 rfl (lv_at hl 4 rfl) ?_
            refine lv_sipush (v := iI (7212)) hx hb dMO_letterOf_69 (by decide) ?_
            refine zRI.back ((va_runV (As := [.int (iI (g : Int)), .int (iI 7212)]) (rest := []) ⟨hx, hb, hml, hown, hts⟩ (mMO_hasShift l D cI cJ cZ q cn gn ln g fm fz ks 7212 hs hln he hz hg hk (by decide)) (cwV 2 hts (gT1 lkMO_122 (gT1 imMO_hasShift (gT1 seMO_hasShift (gT1 iniMO (gTW kcMO_hasShift))))) rfl rfl rfl (by decide +kernel) ⟨Nat.le_of_ble_eq_true rfl, Nat.le_of_ble_eq_true rfl⟩) ⟨zRd_blind, va_recv hK hP (ci := 7) (q0 := 0) rfl rfl, zRd.at (wc := [(moC q cn gn ln), (q.xm, .inl (cI, 7680, .inl (zf fm))), (q.xz, .inl (cI, 40, .inl (zf fz)))]) hK (hP.sub (ws' := [(moC q cn gn ln), (q.xm, .inl (cI, 7680, .inl (zf fm))), (q.xz, .inl (cI, 40, .inl (zf fz)))]) [0, 1, 2] rfl) hX⟩ rfl rfl hl.1 rfl (lv_room (Nat.le_of_ble_eq_true rfl)) dMO_letterOf_72 ⟨Nat.le_of_ble_eq_true rfl, Nat.le_of_ble_eq_true rfl⟩).run) (fun z_72 q_72 => ?_)
            obtain rfl : z_72 = mI ks 7212 := by rcases q_72 with ⟨a9, b9⟩ | ⟨a9, b9⟩ <;> rw [a9, b9]
            have hm_72 := mI_01 ks 7212
            refine lz_if_eq (tgt := 82) hx hb dMO_letterOf_75 (by decide) (by omega) (fun c_75 => ?_) (fun c_75 => ?_)
            · refine lv_bipush (v := iI (8)) hx hb dMO_letterOf_82 (by decide) ?_
              exact hret 84 ls 8 (by
                    unfold letR
                    (repeat' (first | rw [if_pos (by assumption)] | rw [if_neg (by assumption)] | rw [if_neg (by omega)] | rw [if_pos (by omega)]))) dMO_letterOf_84
            · refine lv_iconst (v := iI (4)) hx hb dMO_letterOf_78 rfl ?_
              refine lv_goto (tgt := 84) hx hb dMO_letterOf_79 (by decide) ?_
              exact hret 84 ls 4 (by
                    unfold letR
                    (repeat' (first | rw [if_pos (by assumption)] | rw [if_neg (by assumption)] | rw [if_neg (by omega)] | rw [if_pos (by omega)]))) dMO_letterOf_84
          · refine lv_iconst (v := iI (3)) hx hb dMO_letterOf_63 rfl ?_
            refine lv_goto (tgt := 84) hx hb dMO_letterOf_64 (by decide) ?_
            exact hret 84 ls 3 (by
                  unfold letR
                  (repeat' (first | rw [if_pos (by assumption)] | rw [if_neg (by assumption)] | rw [if_neg (by omega)] | rw [if_pos (by omega)]))) dMO_letterOf_84
        · refine lv_iconst (v := iI (2)) hx hb dMO_letterOf_54 rfl ?_
          refine lv_goto (tgt := 84) hx hb dMO_letterOf_55 (by decide) ?_
          exact hret 84 ls 2 (by
                unfold letR
                (repeat' (first | rw [if_pos (by assumption)] | rw [if_neg (by assumption)] | rw [if_neg (by omega)] | rw [if_pos (by omega)]))) dMO_letterOf_84
      · refine lv_iconst (v := iI (1)) hx hb dMO_letterOf_45 rfl ?_
        refine lv_goto (tgt := 84) hx hb dMO_letterOf_46 (by decide) ?_
        exact hret 84 ls 1 (by
              unfold letR
              (repeat' (first | rw [if_pos (by assumption)] | rw [if_neg (by assumption)] | rw [if_neg (by omega)] | rw [if_pos (by omega)]))) dMO_letterOf_84
  · refine lv_iconst (v := iI (0)) hx hb dMO_letterOf_34 rfl ?_
    exact hret 35 ls 0 (by
          unfold letR
          (repeat' (first | rw [if_pos (by assumption)] | rw [if_neg (by assumption)] | rw [if_neg (by omega)] | rw [if_pos (by omega)]))) dMO_letterOf_35

def rmMO_choose : Room := { frames := 1, cells := 0, slots := 0, locals := 25 }
set_option maxHeartbeats 4000000 in
set_option maxRecDepth 100000 in
theorem mMO_choose (l : Launch) (D : va_G) (cI cJ cZ : ClassId) (q : MoA) (cn gn ln : Int) (ni pl : Int) (fa ga fc : Nat → Int) (chs : List Int) (hc : chs.length ≤ 10) (he : emb fc 0 chs) (hcn : cn = (chs.length : Int)) (hni : -2147483648 ≤ ni ∧ ni < 2147483648) (hpl : -2147483648 ≤ pl ∧ pl < 2147483648) : zI l yMO_choose wMO_choose rmMO_choose D vwCl (zM cI cJ cZ) [.ref q.mo, .int (iI ni), .int (iI pl)] [(moC q cn gn ln), (q.xa, .inl (cI, 9, .inl (zf fa))), (q.ya, .inl (cI, 3, .inl (zf ga))), (q.xc, .inl (cI, 10, .inl (zf fc)))] (S := ((Nat → Int) × (Nat → Int) × (Nat → Int) × List Int)) (fun z u => sChoose chs ni pl z u.2.2.2 ∧ u.2.2.2.length ≤ 10 ∧ emb u.2.2.1 0 u.2.2.2) (fun u => [(moC q (u.2.2.2.length : Int) gn ln), (q.xa, .inl (cI, 9, .inl (zf u.1))), (q.ya, .inl (cI, 3, .inl (zf u.2.1))), (q.xc, .inl (cI, 10, .inl (zf u.2.2.1)))]) := by
  refine zI.of (cc := cMO_choose) (maxL := 4) (rt := .int) (by decide) rfl (Nat.le_of_ble_eq_true rfl) (fun _ _ _ => rfl) ?_
  intro p e s m args below meth c A ls Q hx hb hml hown hts hnm hK hD hA hAe hX hl hret H locs hP hS
  have hl : lv_has ls 4 [(0, .ref q.mo), (1, .int (iI ni)), (2, .int (iI pl))] := hl
  subst hcn
  refine lv_aload_n hx hb dMO_choose_0 rfl (lv_at hl 0 rfl) ?_
  refine va_get (D := D) (ci := 7) (v := .int (iI (chs.length : Int))) (C := nMO) (T := fMO) (N := 24) hx hb hts iwMO hown hK hP 0 rfl rfl 5 (by decide) (hts _ (List.mem_cons_of_mem _ lkMO_92)) (fun _ h9 => h9) rfl dMO_choose_1 ?_
  refine lv_bipush (v := iI (10)) hx hb dMO_choose_4 (by decide) ?_
  refine lz_icmp_eq (tgt := 31) hx hb dMO_choose_6 (by decide) (by omega) (by omega) (fun c_6 => ?_) (fun c_6 => ?_)
  · refine lv_iconst (v := iI (-1)) hx hb dMO_choose_31 rfl ?_
    exact hret H locs 0 0 32 ls (-1) (fa, ga, fc, chs) ⟨Or.inr ⟨fun hh => by obtain ⟨h1, h2, h3, h4⟩ := hh; unfold isPl at h3; omega, rfl, rfl⟩, hc, he⟩ (hP.sub [0, 1, 2, 3] rfl) (hD.sub [0, 1, 2, 3] (by decide) rfl) hS (Nat.zero_le _) (Nat.zero_le _) dMO_choose_32
  · refine lv_iload_n hx hb dMO_choose_9 rfl (lv_at hl 1 rfl) ?_
    refine lz_if_lt (tgt := 31) hx hb dMO_choose_10 (by decide) (by omega) (fun c_10 => ?_) (fun c_10 => ?_)
    · refine lv_iconst (v := iI (-1)) hx hb dMO_choose_31 rfl ?_
      exact hret H locs 0 0 32 ls (-1) (fa, ga, fc, chs) ⟨Or.inr ⟨fun hh => by obtain ⟨h1, h2, h3, h4⟩ := hh; unfold isPl at h3; omega, rfl, rfl⟩, hc, he⟩ (hP.sub [0, 1, 2, 3] rfl) (hD.sub [0, 1, 2, 3] (by decide) rfl) hS (Nat.zero_le _) (Nat.zero_le _) dMO_choose_32
    · refine lv_iload_n hx hb dMO_choose_13 rfl (lv_at hl 1 rfl) ?_
      refine lv_sipush (v := iI (19683)) hx hb dMO_choose_14 (by decide) ?_
      refine lz_icmp_ge (tgt := 31) hx hb dMO_choose_17 (by decide) (by omega) (by omega) (fun c_17 => ?_) (fun c_17 => ?_)
      · refine lv_iconst (v := iI (-1)) hx hb dMO_choose_31 rfl ?_
        exact hret H locs 0 0 32 ls (-1) (fa, ga, fc, chs) ⟨Or.inr ⟨fun hh => by obtain ⟨h1, h2, h3, h4⟩ := hh; unfold isPl at h3; omega, rfl, rfl⟩, hc, he⟩ (hP.sub [0, 1, 2, 3] rfl) (hD.sub [0, 1, 2, 3] (by decide) rfl) hS (Nat.zero_le _) (Nat.zero_le _) dMO_choose_32
      · refine lv_iload_n hx hb dMO_choose_20 rfl (lv_at hl 2 rfl) ?_
        refine lz_if_lt (tgt := 31) hx hb dMO_choose_21 (by decide) (by omega) (fun c_21 => ?_) (fun c_21 => ?_)
        · refine lv_iconst (v := iI (-1)) hx hb dMO_choose_31 rfl ?_
          exact hret H locs 0 0 32 ls (-1) (fa, ga, fc, chs) ⟨Or.inr ⟨fun hh => by obtain ⟨h1, h2, h3, h4⟩ := hh; unfold isPl at h3; omega, rfl, rfl⟩, hc, he⟩ (hP.sub [0, 1, 2, 3] rfl) (hD.sub [0, 1, 2, 3] (by decide) rfl) hS (Nat.zero_le _) (Nat.zero_le _) dMO_choose_32
        · refine lv_iload_n hx hb dMO_choose_24 rfl (lv_at hl 2 rfl) ?_
          refine lv_sipush (v := iI (13824)) hx hb dMO_choose_25 (by decide) ?_
          refine lz_icmp_lt (tgt := 33) hx hb dMO_choose_28 (by decide) (by omega) (by omega) (fun c_28 => ?_) (fun c_28 => ?_)
          · refine lv_sipush (v := iI (13824)) hx hb dMO_choose_33 (by decide) ?_
            refine lv_iload_n hx hb dMO_choose_36 rfl (lv_at hl 1 rfl) ?_
            refine lz_imul hx hb dMO_choose_37 ?_
            refine lv_aload_n hx hb dMO_choose_38 rfl (lv_at hl 0 rfl) ?_
            refine va_get (D := D) (ci := 7) (v := .ref q.xa) (C := nMO) (T := fMO) (N := 24) hx hb hts iwMO hown hK hP 0 rfl rfl 0 (by decide) (hts _ (List.mem_cons_of_mem _ lkMO_7)) (fun _ h9 => h9) rfl dMO_choose_39 ?_
            refine lv_aload_n hx hb dMO_choose_42 rfl (lv_at hl 0 rfl) ?_
            refine va_get (D := D) (ci := 7) (v := .ref q.ya) (C := nMO) (T := fMO) (N := 24) hx hb hts iwMO hown hK hP 0 rfl rfl 1 (by decide) (hts _ (List.mem_cons_of_mem _ lkMO_13)) (fun _ h9 => h9) rfl dMO_choose_43 ?_
            refine zV.back (va_runS (As := [.int (iI (13824 * ni)), .ref q.xa, .ref q.ya]) (rest := []) ⟨hx, hb, hml, hown, hts⟩ ((mMO_open l D cI cJ cZ (13824 * ni) q.xa q.ya fa ga (by unfold kOK; omega)) H.size) (va_cwS 3 hts (gT1 lkMO_76 (gT1 smMO_open (gT1 iniMO (gTW kcMO_open)))) rfl rfl rfl (by decide +kernel) ⟨Nat.le_of_ble_eq_true rfl, Nat.le_of_ble_eq_true rfl⟩) ⟨zPre_blind, zPre.at (wc := [(q.xa, .inl (cI, 9, .inl (zf fa))), (q.ya, .inl (cI, 3, .inl (zf ga)))]) hK hP hD hS hA hX [1, 2] (by decide) rfl⟩ rfl rfl hl.1 rfl (lv_room (Nat.le_of_ble_eq_true rfl)) dMO_choose_46 ⟨Nat.le_of_ble_eq_true rfl, Nat.le_of_ble_eq_true rfl⟩) (wr := [(moC q (chs.length : Int) gn ln), (q.xc, .inl (cI, 10, .inl (zf fc)))]) hP hD hS hA [1, 2] [0, 3] rfl rfl (by decide) (by decide) (fun u_46 H locs q_46 hP hD hS hz_46 hk_46 => ?_)
            obtain ⟨f3, g3⟩ := u_46
            obtain ⟨hf3, hg3⟩ := q_46
            have hf3 : ∀ j, j < 9 → f3 j = mdg (13824 * ni) j := hf3
            have hg3 : ∀ j, j < 3 → g3 j = sdg (13824 * ni) j := hg3
            have hP : va_P D vwCl [(moC q (chs.length : Int) gn ln), (q.xc, .inl (cI, 10, .inl (zf fc))), (q.xa, .inl (cI, 9, .inl (zf f3))), (q.ya, .inl (cI, 3, .inl (zf g3)))] H := hP
            have hD : va_D A [(moC q (chs.length : Int) gn ln), (q.xc, .inl (cI, 10, .inl (zf fc))), (q.xa, .inl (cI, 9, .inl (zf f3))), (q.ya, .inl (cI, 3, .inl (zf g3)))] := hD
            refine lv_aload_n hx hb dMO_choose_49 rfl (lv_at hl 0 rfl) ?_
            refine va_get (D := D) (ci := 7) (v := .ref q.xa) (C := nMO) (T := fMO) (N := 24) hx hb hts iwMO hown hK hP 0 rfl rfl 0 (by decide) (hts _ (List.mem_cons_of_mem _ lkMO_7)) (fun _ h9 => h9) rfl dMO_choose_50 ?_
            refine zRI.back ((va_runS (As := [.ref q.xa]) (rest := []) ⟨hx, hb, hml, hown, hts⟩ (mMO_determinant l D cI cJ cZ q.xa f3) (va_cwS 1 hts (gT1 lkMO_84 (gT1 smMO_determinant (gT1 iniMO (gTW kcMO_determinant)))) rfl rfl rfl (by decide +kernel) ⟨Nat.le_of_ble_eq_true rfl, Nat.le_of_ble_eq_true rfl⟩) ⟨zRd_blind, zRd.at (wc := [(q.xa, .inl (cI, 9, .inl (zf f3)))]) hK (hP.sub (ws' := [(q.xa, .inl (cI, 9, .inl (zf f3)))]) [2] rfl) (stF.now hX hS)⟩ rfl rfl hl.1 rfl (lv_room (Nat.le_of_ble_eq_true rfl)) dMO_choose_53 ⟨Nat.le_of_ble_eq_true rfl, Nat.le_of_ble_eq_true rfl⟩).run) (fun z_53 q_53 => ?_)
            have hdt : z_53 = detF (mdg (ni * 13824 + pl)) := by rw [q_53]; exact detF_congr (fun j hj => (hf3 j hj).trans (mdg_nine (by unfold isPl; omega) j))
            have hdr := detF_rng (ni * 13824 + pl)
            refine lv_istore_n (lv' := [(3, .int (iI z_53)), (0, .ref q.mo), (1, .int (iI ni)), (2, .int (iI pl))]) hx hb dMO_choose_56 rfl hl (by decide) rfl (fun ls hl => ?_)
            refine lv_iload_n hx hb dMO_choose_57 rfl (lv_at hl 0 rfl) ?_
            refine lv_iconst (v := iI (1)) hx hb dMO_choose_58 rfl ?_
            refine lz_icmp_eq (tgt := 69) hx hb dMO_choose_59 (by decide) (by omega) (by omega) (fun c_59 => ?_) (fun c_59 => ?_)
            · refine lv_aload_n hx hb dMO_choose_69 rfl (lv_at hl 1 rfl) ?_
              refine va_get (D := D) (ci := 7) (v := .ref q.xc) (C := nMO) (T := fMO) (N := 24) hx hb hts iwMO hown hK hP 0 rfl rfl 4 (by decide) (hts _ (List.mem_cons_of_mem _ lkMO_22)) (fun _ h9 => h9) rfl dMO_choose_70 ?_
              refine lv_aload_n hx hb dMO_choose_73 rfl (lv_at hl 1 rfl) ?_
              refine va_get (D := D) (ci := 7) (v := .int (iI (chs.length : Int))) (C := nMO) (T := fMO) (N := 24) hx hb hts iwMO hown hK hP 0 rfl rfl 5 (by decide) (hts _ (List.mem_cons_of_mem _ lkMO_92)) (fun _ h9 => h9) rfl dMO_choose_74 ?_
              refine lv_sipush (v := iI (13824)) hx hb dMO_choose_77 (by decide) ?_
              refine lv_iload_n hx hb dMO_choose_80 rfl (lv_at hl 2 rfl) ?_
              refine lz_imul hx hb dMO_choose_81 ?_
              refine lv_iload_n hx hb dMO_choose_82 rfl (lv_at hl 3 rfl) ?_
              refine lz_iadd hx hb dMO_choose_83 ?_
              refine lz_iask hx hb hK hP hD hS 1 0 rfl rfl (z := (chs.length : Int)) (v := (13824 * ni) + pl) chs.length rfl (by omega) dMO_choose_84 (fun H locs hP hD hS => ?_)
              have hP : va_P D vwCl [(moC q (chs.length : Int) gn ln), (q.xc, .inl (cI, 10, .inl (zf (zu fc chs.length ((13824 * ni) + pl))))), (q.xa, .inl (cI, 9, .inl (zf f3))), (q.ya, .inl (cI, 3, .inl (zf g3)))] H := hP
              have hD : va_D A [(moC q (chs.length : Int) gn ln), (q.xc, .inl (cI, 10, .inl (zf (zu fc chs.length ((13824 * ni) + pl))))), (q.xa, .inl (cI, 9, .inl (zf f3))), (q.ya, .inl (cI, 3, .inl (zf g3)))] := hD
              refine lv_aload_n hx hb dMO_choose_85 rfl (lv_at hl 1 rfl) ?_
              refine lv_dup hx hb dMO_choose_86 rfl ?_
              refine va_get (D := D) (ci := 7) (v := .int (iI (chs.length : Int))) (C := nMO) (T := fMO) (N := 24) hx hb hts iwMO hown hK hP 0 rfl rfl 5 (by decide) (hts _ (List.mem_cons_of_mem _ lkMO_92)) (fun _ h9 => h9) rfl dMO_choose_87 ?_
              refine lv_iconst (v := iI (1)) hx hb dMO_choose_90 rfl ?_
              refine lz_iadd hx hb dMO_choose_91 ?_
              refine va_put (D := D) (ci := 7) (v := .int (iI ((chs.length : Int) + 1))) (ty := .int) (C := nMO) (T := fMO) (N := 24) hx hb hts iwMO tMO tkMO nmMO hown hK hP hD hS 0 rfl rfl 5 (by decide) (hts _ (List.mem_cons_of_mem _ lkMO_92)) (fun _ h9 => h9) rfl (by decide +kernel) rfl rfl (Nat.le_of_ble_eq_true rfl) dMO_choose_92 (fun H locs hP hD hS => ?_)
              have hP : va_P D vwCl [(moC q ((chs.length : Int) + 1) gn ln), (q.xc, .inl (cI, 10, .inl (zf (zu fc chs.length ((13824 * ni) + pl))))), (q.xa, .inl (cI, 9, .inl (zf f3))), (q.ya, .inl (cI, 3, .inl (zf g3)))] H := hP
              have hD : va_D A [(moC q ((chs.length : Int) + 1) gn ln), (q.xc, .inl (cI, 10, .inl (zf (zu fc chs.length ((13824 * ni) + pl))))), (q.xa, .inl (cI, 9, .inl (zf f3))), (q.ya, .inl (cI, 3, .inl (zf g3)))] := hD
              refine lv_aload_n hx hb dMO_choose_95 rfl (lv_at hl 1 rfl) ?_
              refine va_get (D := D) (ci := 7) (v := .int (iI ((chs.length : Int) + 1))) (C := nMO) (T := fMO) (N := 24) hx hb hts iwMO hown hK hP 0 rfl rfl 5 (by decide) (hts _ (List.mem_cons_of_mem _ lkMO_92)) (fun _ h9 => h9) rfl dMO_choose_96 ?_
              have hlen : (chs ++ [ni * 13824 + pl]).length = chs.length + 1 := by rw [List.length_append]; rfl
              have hcI : (chs.length : Int) + 1 = ((chs ++ [ni * 13824 + pl]).length : Int) := by rw [hlen]; omega
              have hP := hP
              rw [hcI] at hP hD
              have hP : va_P D vwCl [(moC q ((chs ++ [ni * 13824 + pl]).length : Int) gn ln), (q.xc, .inl (cI, 10, .inl (zf (zu fc chs.length ((13824 * ni) + pl))))), (q.xa, .inl (cI, 9, .inl (zf f3))), (q.ya, .inl (cI, 3, .inl (zf g3)))] H := hP
              have hD : va_D A [(moC q ((chs ++ [ni * 13824 + pl]).length : Int) gn ln), (q.xc, .inl (cI, 10, .inl (zf (zu fc chs.length ((13824 * ni) + pl))))), (q.xa, .inl (cI, 9, .inl (zf f3))), (q.ya, .inl (cI, 3, .inl (zf g3)))] := hD
              exact hret H locs 0 0 99 ls ((chs.length : Int) + 1) (f3, g3, zu fc chs.length ((13824 * ni) + pl), chs ++ [ni * 13824 + pl]) ⟨Or.inl ⟨⟨by omega, by omega, by unfold isPl; omega, by omega⟩, rfl, rfl⟩, by show (chs ++ [ni * 13824 + pl]).length ≤ 10; rw [hlen]; omega, by have := emb_snoc (x := ni * 13824 + pl) (v := 13824 * ni + pl) he (by omega); rw [Nat.zero_add] at this; exact this⟩ (hP.sub [0, 2, 3, 1] rfl) (hD.sub [0, 2, 3, 1] (by decide) rfl) hS (Nat.zero_le _) (Nat.zero_le _) dMO_choose_99
            · refine lv_iload_n hx hb dMO_choose_62 rfl (lv_at hl 0 rfl) ?_
              refine lv_iconst (v := iI (-1)) hx hb dMO_choose_63 rfl ?_
              refine lz_icmp_eq (tgt := 69) hx hb dMO_choose_64 (by decide) (by omega) (by omega) (fun c_64 => ?_) (fun c_64 => ?_)
              · refine lv_aload_n hx hb dMO_choose_69 rfl (lv_at hl 1 rfl) ?_
                refine va_get (D := D) (ci := 7) (v := .ref q.xc) (C := nMO) (T := fMO) (N := 24) hx hb hts iwMO hown hK hP 0 rfl rfl 4 (by decide) (hts _ (List.mem_cons_of_mem _ lkMO_22)) (fun _ h9 => h9) rfl dMO_choose_70 ?_
                refine lv_aload_n hx hb dMO_choose_73 rfl (lv_at hl 1 rfl) ?_
                refine va_get (D := D) (ci := 7) (v := .int (iI (chs.length : Int))) (C := nMO) (T := fMO) (N := 24) hx hb hts iwMO hown hK hP 0 rfl rfl 5 (by decide) (hts _ (List.mem_cons_of_mem _ lkMO_92)) (fun _ h9 => h9) rfl dMO_choose_74 ?_
                refine lv_sipush (v := iI (13824)) hx hb dMO_choose_77 (by decide) ?_
                refine lv_iload_n hx hb dMO_choose_80 rfl (lv_at hl 2 rfl) ?_
                refine lz_imul hx hb dMO_choose_81 ?_
                refine lv_iload_n hx hb dMO_choose_82 rfl (lv_at hl 3 rfl) ?_
                refine lz_iadd hx hb dMO_choose_83 ?_
                refine lz_iask hx hb hK hP hD hS 1 0 rfl rfl (z := (chs.length : Int)) (v := (13824 * ni) + pl) chs.length rfl (by omega) dMO_choose_84 (fun H locs hP hD hS => ?_)
                have hP : va_P D vwCl [(moC q (chs.length : Int) gn ln), (q.xc, .inl (cI, 10, .inl (zf (zu fc chs.length ((13824 * ni) + pl))))), (q.xa, .inl (cI, 9, .inl (zf f3))), (q.ya, .inl (cI, 3, .inl (zf g3)))] H := hP
                have hD : va_D A [(moC q (chs.length : Int) gn ln), (q.xc, .inl (cI, 10, .inl (zf (zu fc chs.length ((13824 * ni) + pl))))), (q.xa, .inl (cI, 9, .inl (zf f3))), (q.ya, .inl (cI, 3, .inl (zf g3)))] := hD
                refine lv_aload_n hx hb dMO_choose_85 rfl (lv_at hl 1 rfl) ?_
                refine lv_dup hx hb dMO_choose_86 rfl ?_
                refine va_get (D := D) (ci := 7) (v := .int (iI (chs.length : Int))) (C := nMO) (T := fMO) (N := 24) hx hb hts iwMO hown hK hP 0 rfl rfl 5 (by decide) (hts _ (List.mem_cons_of_mem _ lkMO_92)) (fun _ h9 => h9) rfl dMO_choose_87 ?_
                refine lv_iconst (v := iI (1)) hx hb dMO_choose_90 rfl ?_
                refine lz_iadd hx hb dMO_choose_91 ?_
                refine va_put (D := D) (ci := 7) (v := .int (iI ((chs.length : Int) + 1))) (ty := .int) (C := nMO) (T := fMO) (N := 24) hx hb hts iwMO tMO tkMO nmMO hown hK hP hD hS 0 rfl rfl 5 (by decide) (hts _ (List.mem_cons_of_mem _ lkMO_92)) (fun _ h9 => h9) rfl (by decide +kernel) rfl rfl (Nat.le_of_ble_eq_true rfl) dMO_choose_92 (fun H locs hP hD hS => ?_)
                have hP : va_P D vwCl [(moC q ((chs.length : Int) + 1) gn ln), (q.xc, .inl (cI, 10, .inl (zf (zu fc chs.length ((13824 * ni) + pl))))), (q.xa, .inl (cI, 9, .inl (zf f3))), (q.ya, .inl (cI, 3, .inl (zf g3)))] H := hP
                have hD : va_D A [(moC q ((chs.length : Int) + 1) gn ln), (q.xc, .inl (cI, 10, .inl (zf (zu fc chs.length ((13824 * ni) + pl))))), (q.xa, .inl (cI, 9, .inl (zf f3))), (q.ya, .inl (cI, 3, .inl (zf g3)))] := hD
                refine lv_aload_n hx hb dMO_choose_95 rfl (lv_at hl 1 rfl) ?_
                refine va_get (D := D) (ci := 7) (v := .int (iI ((chs.length : Int) + 1))) (C := nMO) (T := fMO) (N := 24) hx hb hts iwMO hown hK hP 0 rfl rfl 5 (by decide) (hts _ (List.mem_cons_of_mem _ lkMO_92)) (fun _ h9 => h9) rfl dMO_choose_96 ?_
                have hlen : (chs ++ [ni * 13824 + pl]).length = chs.length + 1 := by rw [List.length_append]; rfl
                have hcI : (chs.length : Int) + 1 = ((chs ++ [ni * 13824 + pl]).length : Int) := by rw [hlen]; omega
                have hP := hP
                rw [hcI] at hP hD
                have hP : va_P D vwCl [(moC q ((chs ++ [ni * 13824 + pl]).length : Int) gn ln), (q.xc, .inl (cI, 10, .inl (zf (zu fc chs.length ((13824 * ni) + pl))))), (q.xa, .inl (cI, 9, .inl (zf f3))), (q.ya, .inl (cI, 3, .inl (zf g3)))] H := hP
                have hD : va_D A [(moC q ((chs ++ [ni * 13824 + pl]).length : Int) gn ln), (q.xc, .inl (cI, 10, .inl (zf (zu fc chs.length ((13824 * ni) + pl))))), (q.xa, .inl (cI, 9, .inl (zf f3))), (q.ya, .inl (cI, 3, .inl (zf g3)))] := hD
                exact hret H locs 0 0 99 ls ((chs.length : Int) + 1) (f3, g3, zu fc chs.length ((13824 * ni) + pl), chs ++ [ni * 13824 + pl]) ⟨Or.inl ⟨⟨by omega, by omega, by unfold isPl; omega, by omega⟩, rfl, rfl⟩, by show (chs ++ [ni * 13824 + pl]).length ≤ 10; rw [hlen]; omega, by have := emb_snoc (x := ni * 13824 + pl) (v := 13824 * ni + pl) he (by omega); rw [Nat.zero_add] at this; exact this⟩ (hP.sub [0, 2, 3, 1] rfl) (hD.sub [0, 2, 3, 1] (by decide) rfl) hS (Nat.zero_le _) (Nat.zero_le _) dMO_choose_99
              · refine lv_iconst (v := iI (-1)) hx hb dMO_choose_67 rfl ?_
                exact hret H locs 0 0 68 ls (-1) (f3, g3, fc, chs) ⟨Or.inr ⟨fun hh => by obtain ⟨h1, h2, h3, h4⟩ := hh; rw [← hdt] at h4; rcases h4 with h4 | h4 <;> contradiction, rfl, rfl⟩, hc, he⟩ (hP.sub [0, 2, 3, 1] rfl) (hD.sub [0, 2, 3, 1] (by decide) rfl) hS (Nat.zero_le _) (Nat.zero_le _) dMO_choose_68
          · refine lv_iconst (v := iI (-1)) hx hb dMO_choose_31 rfl ?_
            exact hret H locs 0 0 32 ls (-1) (fa, ga, fc, chs) ⟨Or.inr ⟨fun hh => by obtain ⟨h1, h2, h3, h4⟩ := hh; unfold isPl at h3; omega, rfl, rfl⟩, hc, he⟩ (hP.sub [0, 1, 2, 3] rfl) (hD.sub [0, 1, 2, 3] (by decide) rfl) hS (Nat.zero_le _) (Nat.zero_le _) dMO_choose_32
