/-! GroupHallsModel: gatherHalves: written by wip/whole -/
def rmMO_gatherHalves : Room := { frames := 3, cells := 0, slots := 0, locals := 81 }
set_option maxHeartbeats 4000000 in
set_option maxRecDepth 100000 in
theorem mMO_gatherHalves (l : Launch) (D : va_G) (cI cJ cZ : ClassId) (q : MoA) (cn gn ln : Int) (g : Nat) (fm fz : Nat → Int) (ks : List Int) (ft mk fg fo fh : Nat → Int) (fj : Nat → Int64) (hs : ks.Pairwise (· < ·)) (hln : 0 < ks.length ∧ ks.length ≤ 192) (he : emb fm (192 * g) ks) (hz : fz g = (ks.length : Int)) (hg : g < 40) (hk : ∀ x ∈ ks, 0 ≤ x ∧ x < 2147483648) (hG : isG ks) (ht : tbOK ks ft) : zV l yMO_gatherHalves wMO_gatherHalves rmMO_gatherHalves D vwCl (zM cI cJ cZ) [.ref q.mo, .int (iI (g : Int)), .int (iI (ks.length : Int))] [(moC q cn gn ln), (q.xm, .inl (cI, 7680, .inl (zf fm))), (q.xz, .inl (cI, 40, .inl (zf fz))), (q.xt, .inl (cI, 36864, .inl (zf ft))), (q.xr, .inl (cI, 200, .inl (zf mk))), (q.xg, .inl (cI, 16, .inl (zf fg))), (q.xo, .inl (cI, 200, .inl (zf fo))), (q.xh, .inl (cI, 40, .inl (zf fh))), (q.xj, .inl (cJ, 15360, .inr (.inl fj)))] (S := ((Nat → Int) × (Nat → Int) × (Nat → Int) × (Nat → Int) × (Nat → Int64))) (fun u => (∃ h : Nat, u.2.2.2.1 g = (h : Int) ∧ hvR ks h (bJ u.2.2.2.2 (384 * g))) ∧ (∀ t, t ≠ g → u.2.2.2.1 t = fh t) ∧ ∀ t, (t < 384 * g ∨ 384 * g + 384 ≤ t) → u.2.2.2.2 t = fj t) (fun u => [(moC q cn gn ln), (q.xm, .inl (cI, 7680, .inl (zf fm))), (q.xz, .inl (cI, 40, .inl (zf fz))), (q.xt, .inl (cI, 36864, .inl (zf ft))), (q.xr, .inl (cI, 200, .inl (zf u.1))), (q.xg, .inl (cI, 16, .inl (zf u.2.1))), (q.xo, .inl (cI, 200, .inl (zf u.2.2.1))), (q.xh, .inl (cI, 40, .inl (zf u.2.2.2.1))), (q.xj, .inl (cJ, 15360, .inr (.inl u.2.2.2.2)))]) := by
  refine zV.of (cc := cMO_gatherHalves) (maxL := 8) (by decide) rfl (Nat.le_of_ble_eq_true rfl) ?_
  intro p e s m args below meth c A ls Q hx hb hml hown hts hnm hK hD hA hAe hX hl hret H locs hP hS
  have hl : lv_has ls 8 [(0, .ref q.mo), (1, .int (iI (g : Int))), (2, .int (iI (ks.length : Int)))] := hl
  refine lv_aload_n hx hb dMO_gatherHalves_0 rfl (lv_at hl 0 rfl) ?_
  refine lv_iload_n hx hb dMO_gatherHalves_1 rfl (lv_at hl 1 rfl) ?_
  refine zRI.back ((va_runS (As := []) (rest := [.int (iI (g : Int)), .ref q.mo]) ⟨hx, hb, hml, hown, hts⟩ (mMO_identity l D cI cJ cZ) (va_cwS 0 hts (gT1 lkMO_98 (gT1 smMO_identity (gT1 iniMO (gTW kcMO_identity)))) rfl rfl rfl (by decide +kernel) ⟨Nat.le_of_ble_eq_true rfl, Nat.le_of_ble_eq_true rfl⟩) ⟨zRd_blind, zRd.at (wc := []) hK (hP.sub (ws' := []) [] rfl) (stF.now hX hS)⟩ rfl rfl hl.1 rfl (lv_room (Nat.le_of_ble_eq_true rfl)) dMO_gatherHalves_2 ⟨Nat.le_of_ble_eq_true rfl, Nat.le_of_ble_eq_true rfl⟩).run) (fun z_2 q_2 => ?_)
  obtain rfl : z_2 = u0 := q_2
  refine zRI.back ((va_runV (As := [.int (iI (g : Int)), .int (iI u0)]) (rest := []) ⟨hx, hb, hml, hown, hts⟩ (mMO_place l D cI cJ cZ q cn gn ln g fm fz ks u0 hs hln he hz hg hk (by decide)) (cwV 2 hts (gT1 lkMO_119 (gT1 imMO_place (gT1 seMO_place (gT1 iniMO (gTW kcMO_place))))) rfl rfl rfl (by decide +kernel) ⟨Nat.le_of_ble_eq_true rfl, Nat.le_of_ble_eq_true rfl⟩) ⟨zRd_blind, va_recv hK hP (ci := 7) (q0 := 0) rfl rfl, zRd.at (wc := [(moC q cn gn ln), (q.xm, .inl (cI, 7680, .inl (zf fm))), (q.xz, .inl (cI, 40, .inl (zf fz)))]) hK (hP.sub (ws' := [(moC q cn gn ln), (q.xm, .inl (cI, 7680, .inl (zf fm))), (q.xz, .inl (cI, 40, .inl (zf fz)))]) [0, 1, 2] rfl) (stF.now hX hS)⟩ rfl rfl hl.1 rfl (lv_room (Nat.le_of_ble_eq_true rfl)) dMO_gatherHalves_5 ⟨Nat.le_of_ble_eq_true rfl, Nat.le_of_ble_eq_true rfl⟩).run) (fun z_5 q_5 => ?_)
  have q_5 : lix ks u0 z_5 := q_5
  obtain ⟨e9, he9, hu, rfl⟩ : ∃ e9 : Nat, e9 < ks.length ∧ ks.getD e9 (-1) = u0 ∧ z_5 = (e9 : Int) := by
    rcases q_5 with ⟨_, a9, b9, c9⟩ | ⟨a9, _⟩
    · exact ⟨z_5.toNat, by omega, c9, by omega⟩
    · exact absurd hG.2.1 a9
  refine lv_istore_n (lv' := [(3, .int (iI (e9 : Int))), (0, .ref q.mo), (1, .int (iI (g : Int))), (2, .int (iI (ks.length : Int)))]) hx hb dMO_gatherHalves_8 rfl hl (by decide) rfl (fun ls hl => ?_)
  refine lv_iconst (v := iI (0)) hx hb dMO_gatherHalves_9 rfl ?_
  refine lv_istore (lv' := [(4, .int (iI 0)), (3, .int (iI (e9 : Int))), (0, .ref q.mo), (1, .int (iI (g : Int))), (2, .int (iI (ks.length : Int)))]) hx hb dMO_gatherHalves_10 hl (by decide) rfl (fun ls hl => ?_)
  refine lv_iconst (v := iI (1)) hx hb dMO_gatherHalves_12 rfl ?_
  refine lv_istore (lv' := [(5, .int (iI 1)), (4, .int (iI 0)), (3, .int (iI (e9 : Int))), (0, .ref q.mo), (1, .int (iI (g : Int))), (2, .int (iI (ks.length : Int)))]) hx hb dMO_gatherHalves_13 hl (by decide) rfl (fun ls hl => ?_)
  refine lv_iconst (v := iI (0)) hx hb dMO_gatherHalves_15 rfl ?_
  refine lv_istore (lv' := [(6, .int (iI 0)), (5, .int (iI 1)), (4, .int (iI 0)), (3, .int (iI (e9 : Int))), (0, .ref q.mo), (1, .int (iI (g : Int))), (2, .int (iI (ks.length : Int)))]) hx hb dMO_gatherHalves_16 hl (by decide) rfl (fun ls hl => ?_)
  have hl : lv_has ls 8 [(6, .int (iI 0)), (5, .int (iI (([u0] : List Int).length : Int))), (4, .int (iI (([] : List Int).length : Int))), (3, .int (iI (e9 : Int))), (0, .ref q.mo), (1, .int (iI (g : Int))), (2, .int (iI (ks.length : Int)))] := hl
  have lp18 : ∀ (n9 : Nat) (k : Nat) (gs K : List Int) (m1 fg1 fo1 : Nat → Int), (k ≤ ks.length) → (genOK gs K) → (∀ x ∈ K, x ∈ ks) → (2 ^ gs.length ≤ K.length) → (emi ks fg1 gs) → (∀ j, j < k → ks.getD j (-1) ∈ K) → (ks.length - k) < n9 → ∀ (H : Heap) (locs : List Loc), va_P D vwCl [(moC q cn gn ln), (q.xm, .inl (cI, 7680, .inl (zf fm))), (q.xz, .inl (cI, 40, .inl (zf fz))), (q.xt, .inl (cI, 36864, .inl (zf ft))), (q.xr, .inl (cI, 200, .inl (zf m1))), (q.xg, .inl (cI, 16, .inl (zf fg1))), (q.xo, .inl (cI, 200, .inl (zf fo1))), (q.xh, .inl (cI, 40, .inl (zf fh))), (q.xj, .inl (cJ, 15360, .inr (.inl fj)))] H → va_D A [(moC q cn gn ln), (q.xm, .inl (cI, 7680, .inl (zf fm))), (q.xz, .inl (cI, 40, .inl (zf fz))), (q.xt, .inl (cI, 36864, .inl (zf ft))), (q.xr, .inl (cI, 200, .inl (zf m1))), (q.xg, .inl (cI, 16, .inl (zf fg1))), (q.xo, .inl (cI, 200, .inl (zf fo1))), (q.xh, .inl (cI, 40, .inl (zf fh))), (q.xj, .inl (cJ, 15360, .inr (.inl fj)))] → va_S A s.heap H locs → ∀ (ls : Array Slot), lv_has ls 8 [(0, .ref q.mo), (1, .int (iI (g : Int))), (2, .int (iI (ks.length : Int))), (3, .int (iI (e9 : Int))), (4, .int (iI (gs.length : Int))), (5, .int (iI (K.length : Int))), (6, .int (iI (k : Int)))] → W p l e (headSpec wMO_gatherHalves rmMO_gatherHalves).room s m args below meth c H locs 0 0 Q (F0 m 18 ls []) := by
    intro n9
    induction n9 with
    | zero => intro k gs K m1 fg1 fo1 hk1 hgk hKs hpw hge hin hm; exact absurd hm (Nat.not_lt_zero _)
    | succ n9 ih18 =>
      intro k gs K m1 fg1 fo1 hk1 hgk hKs hpw hge hin hm18 H locs hP hD hS ls hl
      have hgs : ∀ a ∈ gs, a ∈ ks := hge.sub
      have hKl : K.length ≤ ks.length := sub_len (nodup_lt hgk.1) hKs
      have hg7 : gs.length ≤ 7 := pow192 (by omega)
      refine lv_iload hx hb dMO_gatherHalves_18 (lv_at hl 6 rfl) ?_
      refine lv_iload_n hx hb dMO_gatherHalves_20 rfl (lv_at hl 2 rfl) ?_
      refine lz_icmp_ge (tgt := 96) hx hb dMO_gatherHalves_21 (by decide) (by omega) (by omega) (fun c_21 => ?_) (fun c_21 => ?_)
      · have hall : ∀ x ∈ ks, Reach gs x := fun x hx9 => (hgk.2.2.1 x).mp (by obtain ⟨j, hj, rfl⟩ := mem_getD hx9; exact hin j (by omega))
        have h2p : 2 ^ gs.length ≤ 128 := pow_le128 (by omega)
        refine lv_aload_n hx hb dMO_gatherHalves_96 rfl (lv_at hl 0 rfl) ?_
        refine va_get (D := D) (ci := 7) (v := .ref q.xh) (C := nMO) (T := fMO) (N := 24) hx hb hts iwMO hown hK hP 0 rfl rfl 13 (by decide) (hts _ (List.mem_cons_of_mem _ lkMO_40)) (fun _ h9 => h9) rfl dMO_gatherHalves_97 ?_
        refine lv_iload_n hx hb dMO_gatherHalves_100 rfl (lv_at hl 1 rfl) ?_
        refine lv_iconst (v := iI (0)) hx hb dMO_gatherHalves_101 rfl ?_
        refine lz_iask hx hb hK hP hD hS 7 0 rfl rfl (z := (g : Int)) (v := 0) g rfl (by omega) dMO_gatherHalves_102 (fun H locs hP hD hS => ?_)
        have hP : va_P D vwCl [(moC q cn gn ln), (q.xm, .inl (cI, 7680, .inl (zf fm))), (q.xz, .inl (cI, 40, .inl (zf fz))), (q.xt, .inl (cI, 36864, .inl (zf ft))), (q.xr, .inl (cI, 200, .inl (zf m1))), (q.xg, .inl (cI, 16, .inl (zf fg1))), (q.xo, .inl (cI, 200, .inl (zf fo1))), (q.xh, .inl (cI, 40, .inl (zf (zu fh g 0)))), (q.xj, .inl (cJ, 15360, .inr (.inl fj)))] H := hP
        have hD : va_D A [(moC q cn gn ln), (q.xm, .inl (cI, 7680, .inl (zf fm))), (q.xz, .inl (cI, 40, .inl (zf fz))), (q.xt, .inl (cI, 36864, .inl (zf ft))), (q.xr, .inl (cI, 200, .inl (zf m1))), (q.xg, .inl (cI, 16, .inl (zf fg1))), (q.xo, .inl (cI, 200, .inl (zf fo1))), (q.xh, .inl (cI, 40, .inl (zf (zu fh g 0)))), (q.xj, .inl (cJ, 15360, .inr (.inl fj)))] := hD
        refine lv_iconst (v := iI (1)) hx hb dMO_gatherHalves_103 rfl ?_
        refine lv_istore (lv' := [(6, .int (iI 1)), (0, .ref q.mo), (1, .int (iI (g : Int))), (2, .int (iI (ks.length : Int))), (3, .int (iI (e9 : Int))), (4, .int (iI (gs.length : Int))), (5, .int (iI (K.length : Int)))]) hx hb dMO_gatherHalves_104 hl (by decide) rfl (fun ls hl => ?_)
        rw [show 1 = ((1 : Nat) : Int) from rfl] at hl
        have lp106 : ∀ (n9 : Nat) (c8 h9 : Nat) (m2 fo2 fh2 : Nat → Int) (fj2 : Nat → Int64), (1 ≤ c8 ∧ c8 ≤ 2 ^ gs.length) → (HVI ks gs fj2 (384 * g) h9 c8) → (fh2 g = (h9 : Int)) → (∀ t, t ≠ g → fh2 t = fh t) → (∀ t, (t < 384 * g ∨ 384 * g + 384 ≤ t) → fj2 t = fj t) → (2 ^ gs.length - c8) < n9 → ∀ (H : Heap) (locs : List Loc), va_P D vwCl [(moC q cn gn ln), (q.xm, .inl (cI, 7680, .inl (zf fm))), (q.xz, .inl (cI, 40, .inl (zf fz))), (q.xt, .inl (cI, 36864, .inl (zf ft))), (q.xr, .inl (cI, 200, .inl (zf m2))), (q.xg, .inl (cI, 16, .inl (zf fg1))), (q.xo, .inl (cI, 200, .inl (zf fo2))), (q.xh, .inl (cI, 40, .inl (zf fh2))), (q.xj, .inl (cJ, 15360, .inr (.inl fj2)))] H → va_D A [(moC q cn gn ln), (q.xm, .inl (cI, 7680, .inl (zf fm))), (q.xz, .inl (cI, 40, .inl (zf fz))), (q.xt, .inl (cI, 36864, .inl (zf ft))), (q.xr, .inl (cI, 200, .inl (zf m2))), (q.xg, .inl (cI, 16, .inl (zf fg1))), (q.xo, .inl (cI, 200, .inl (zf fo2))), (q.xh, .inl (cI, 40, .inl (zf fh2))), (q.xj, .inl (cJ, 15360, .inr (.inl fj2)))] → va_S A s.heap H locs → ∀ (ls : Array Slot), lv_has ls 8 [(0, .ref q.mo), (1, .int (iI (g : Int))), (2, .int (iI (ks.length : Int))), (3, .int (iI (e9 : Int))), (4, .int (iI (gs.length : Int))), (6, .int (iI (c8 : Int)))] → W p l e (headSpec wMO_gatherHalves rmMO_gatherHalves).room s m args below meth c H locs 0 0 Q (F0 m 106 ls []) := by
          intro n9
          induction n9 with
          | zero => intro c8 h9 m2 fo2 fh2 fj2 hc1 hV hh9 hf1 hf2 hm; exact absurd hm (Nat.not_lt_zero _)
          | succ n9 ih106 =>
            intro c8 h9 m2 fo2 fh2 fj2 hc1 hV hh9 hf1 hf2 hm106 H locs hP hD hS ls hl
            refine lv_iload hx hb dMO_gatherHalves_106 (lv_at hl 5 rfl) ?_
            refine lv_iconst (v := iI (1)) hx hb dMO_gatherHalves_108 rfl ?_
            refine lv_iload hx hb dMO_gatherHalves_109 (lv_at hl 4 rfl) ?_
            refine lz_ishl (z := ((2 ^ gs.length : Nat) : Int)) hx hb dMO_gatherHalves_111 (sh_1 _ (by omega)) ?_
            refine lz_icmp_ge (tgt := 140) hx hb dMO_gatherHalves_112 (by decide) (by omega) (by have hpi : (0 : Int) ≤ ((2 ^ gs.length : Nat) : Int) ∧ ((2 ^ gs.length : Nat) : Int) ≤ 128 := ⟨Int.natCast_nonneg _, Int.ofNat_le.mpr h2p⟩; omega) (fun c_112 => ?_) (fun c_112 => ?_)
            · have hcge : 2 ^ gs.length ≤ c8 := Int.ofNat_le.mp c_112
              exact hret H locs 0 0 140 ls (m2, fg1, fo2, fh2, fj2) ⟨⟨h9, hh9, HVI.done hG hs hgs hall hg7 (by rw [show 2 ^ gs.length = c8 by omega]; exact hV)⟩, hf1, hf2⟩ (hP.sub [0, 1, 2, 3, 4, 5, 6, 7, 8] rfl) (hD.sub [0, 1, 2, 3, 4, 5, 6, 7, 8] (by decide) rfl) hS (Nat.zero_le _) (Nat.zero_le _) dMO_gatherHalves_140
            · have hclt : c8 < 2 ^ gs.length := Int.ofNat_lt.mp c_112
              refine lv_aload_n hx hb dMO_gatherHalves_115 rfl (lv_at hl 0 rfl) ?_
              refine lv_iload_n hx hb dMO_gatherHalves_116 rfl (lv_at hl 3 rfl) ?_
              refine lv_iload_n hx hb dMO_gatherHalves_117 rfl (lv_at hl 2 rfl) ?_
              refine lv_iload hx hb dMO_gatherHalves_118 (lv_at hl 4 rfl) ?_
              refine lv_iload hx hb dMO_gatherHalves_120 (lv_at hl 5 rfl) ?_
              refine zI.back (va_runV (As := [.int (iI (e9 : Int)), .int (iI (ks.length : Int)), .int (iI (gs.length : Int)), .int (iI (c8 : Int))]) (rest := []) ⟨hx, hb, hml, hown, hts⟩ ((mMO_isHalf l D cI cJ cZ q cn gn ln ks e9 gs c8 ft m2 fg1 fo2 hG hs hln.2 he9 hu ht hg7 hge hall (by omega)) H.size) (cwV 4 hts (gT1 lkMO_136 (gT1 imMO_isHalf (gT1 seMO_isHalf (gT1 iniMO (gTW kcMO_isHalf))))) rfl rfl rfl (by decide +kernel) ⟨Nat.le_of_ble_eq_true rfl, Nat.le_of_ble_eq_true rfl⟩) ⟨zPre_blind, va_recv hK hP (ci := 7) (q0 := 0) rfl rfl, zPre.at (wc := [(moC q cn gn ln), (q.xt, .inl (cI, 36864, .inl (zf ft))), (q.xr, .inl (cI, 200, .inl (zf m2))), (q.xg, .inl (cI, 16, .inl (zf fg1))), (q.xo, .inl (cI, 200, .inl (zf fo2)))]) hK hP hD hS hA hX [0, 3, 4, 5, 6] (by decide) rfl⟩ rfl rfl hl.1 rfl (lv_room (Nat.le_of_ble_eq_true rfl)) dMO_gatherHalves_122 ⟨Nat.le_of_ble_eq_true rfl, Nat.le_of_ble_eq_true rfl⟩) (wr := [(q.xm, .inl (cI, 7680, .inl (zf fm))), (q.xz, .inl (cI, 40, .inl (zf fz))), (q.xh, .inl (cI, 40, .inl (zf fh2))), (q.xj, .inl (cJ, 15360, .inr (.inl fj2)))]) hP hD hS hA [0, 3, 4, 5, 6] [1, 2, 7, 8] rfl rfl (by decide) (by decide) (fun z_122 u_122 H locs q_122 hP hD hS hz_122 hk_122 => ?_)
              obtain ⟨m4, fo4⟩ := u_122
              have hP : va_P D vwCl [(q.xm, .inl (cI, 7680, .inl (zf fm))), (q.xz, .inl (cI, 40, .inl (zf fz))), (q.xh, .inl (cI, 40, .inl (zf fh2))), (q.xj, .inl (cJ, 15360, .inr (.inl fj2))), (moC q cn gn ln), (q.xt, .inl (cI, 36864, .inl (zf ft))), (q.xr, .inl (cI, 200, .inl (zf m4))), (q.xg, .inl (cI, 16, .inl (zf fg1))), (q.xo, .inl (cI, 200, .inl (zf fo4)))] H := hP
              have hD : va_D A [(q.xm, .inl (cI, 7680, .inl (zf fm))), (q.xz, .inl (cI, 40, .inl (zf fz))), (q.xh, .inl (cI, 40, .inl (zf fh2))), (q.xj, .inl (cJ, 15360, .inr (.inl fj2))), (moC q cn gn ln), (q.xt, .inl (cI, 36864, .inl (zf ft))), (q.xr, .inl (cI, 200, .inl (zf m4))), (q.xg, .inl (cI, 16, .inl (zf fg1))), (q.xo, .inl (cI, 200, .inl (zf fo4)))] := hD
              refine lz_if_eq (tgt := 134) hx hb dMO_gatherHalves_125 (by decide) (by rcases q_122 with ⟨q9, _⟩ | ⟨q9, _⟩ <;> omega) (fun c_125 => ?_) (fun c_125 => ?_)
              · refine lz_iinc (lv' := [(6, .int (iI ((c8 : Int) + 1))), (0, .ref q.mo), (1, .int (iI (g : Int))), (2, .int (iI (ks.length : Int))), (3, .int (iI (e9 : Int))), (4, .int (iI (gs.length : Int)))]) hx hb dMO_gatherHalves_134 hl (k := 5) rfl (by decide) rfl (fun ls hl => ?_)
                refine lv_goto (tgt := 106) hx hb dMO_gatherHalves_137 (by decide) ?_
                exact ih106 (c8 + 1) h9 m4 fo4 fh2 fj2 (by omega) (hV.no (by rcases q_122 with ⟨q9, _⟩ | ⟨_, q9⟩ <;> first | exact q9 | omega)) hh9 hf1 hf2 (by omega) _ _ (hP.sub [4, 0, 1, 5, 6, 7, 8, 2, 3] rfl) (hD.sub [4, 0, 1, 5, 6, 7, 8, 2, 3] (by decide) rfl) hS _ (lv_sub hl [1, 2, 3, 4, 5, 0] rfl)
              · obtain ⟨hq1, hq2, hq3⟩ : chiB ks (fun t => m4 t = 1) ∧ (∀ t, t < ks.length → m4 t = 1 ∨ m4 t = 2) ∧ gSg ks gs c8 (fun t => m4 t = 1) := by rcases q_122 with ⟨_, q9⟩ | ⟨q9, _⟩ <;> first | exact q9 | omega
                refine lv_aload_n hx hb dMO_gatherHalves_128 rfl (lv_at hl 0 rfl) ?_
                refine lv_iload_n hx hb dMO_gatherHalves_129 rfl (lv_at hl 1 rfl) ?_
                refine lv_iload_n hx hb dMO_gatherHalves_130 rfl (lv_at hl 2 rfl) ?_
                refine zV.back (va_runV (As := [.int (iI (g : Int)), .int (iI (ks.length : Int))]) (rest := []) ⟨hx, hb, hml, hown, hts⟩ ((mMO_keepHalf l D cI cJ cZ q cn gn ln ks g h9 m4 fh2 fj2 hln.2 hg hh9 (by have := hV.1; omega) hq2) H.size) (cwV 2 hts (gT1 lkMO_140 (gT1 imMO_keepHalf (gT1 seMO_keepHalf (gT1 iniMO (gTW kcMO_keepHalf))))) rfl rfl rfl (by decide +kernel) ⟨Nat.le_of_ble_eq_true rfl, Nat.le_of_ble_eq_true rfl⟩) ⟨zPre_blind, va_recv hK hP (ci := 7) (q0 := 4) rfl rfl, zPre.at (wc := [(moC q cn gn ln), (q.xr, .inl (cI, 200, .inl (zf m4))), (q.xh, .inl (cI, 40, .inl (zf fh2))), (q.xj, .inl (cJ, 15360, .inr (.inl fj2)))]) hK hP hD hS hA hX [4, 6, 2, 3] (by decide) rfl⟩ rfl rfl hl.1 rfl (lv_room (Nat.le_of_ble_eq_true rfl)) dMO_gatherHalves_131 ⟨Nat.le_of_ble_eq_true rfl, Nat.le_of_ble_eq_true rfl⟩) (wr := [(q.xm, .inl (cI, 7680, .inl (zf fm))), (q.xz, .inl (cI, 40, .inl (zf fz))), (q.xt, .inl (cI, 36864, .inl (zf ft))), (q.xg, .inl (cI, 16, .inl (zf fg1))), (q.xo, .inl (cI, 200, .inl (zf fo4)))]) hP hD hS hA [4, 6, 2, 3] [0, 1, 5, 7, 8] rfl rfl (by decide) (by decide) (fun u_131 H locs q_131 hP hD hS hz_131 hk_131 => ?_)
                obtain ⟨p5, a5, b5, w5, hw5, hI5⟩ := q_131
                generalize u_131 = fj5 at hP hD hI5
                have hP : va_P D vwCl [(q.xm, .inl (cI, 7680, .inl (zf fm))), (q.xz, .inl (cI, 40, .inl (zf fz))), (q.xt, .inl (cI, 36864, .inl (zf ft))), (q.xg, .inl (cI, 16, .inl (zf fg1))), (q.xo, .inl (cI, 200, .inl (zf fo4))), (moC q cn gn ln), (q.xr, .inl (cI, 200, .inl (zf m4))), (q.xh, .inl (cI, 40, .inl (zf (zu fh2 g ((h9 : Int) + 1))))), (q.xj, .inl (cJ, 15360, .inr (.inl fj5)))] H := hP
                have hD : va_D A [(q.xm, .inl (cI, 7680, .inl (zf fm))), (q.xz, .inl (cI, 40, .inl (zf fz))), (q.xt, .inl (cI, 36864, .inl (zf ft))), (q.xg, .inl (cI, 16, .inl (zf fg1))), (q.xo, .inl (cI, 200, .inl (zf fo4))), (moC q cn gn ln), (q.xr, .inl (cI, 200, .inl (zf m4))), (q.xh, .inl (cI, 40, .inl (zf (zu fh2 g ((h9 : Int) + 1))))), (q.xj, .inl (cJ, 15360, .inr (.inl fj5)))] := hD
                refine lz_iinc (lv' := [(6, .int (iI ((c8 : Int) + 1))), (0, .ref q.mo), (1, .int (iI (g : Int))), (2, .int (iI (ks.length : Int))), (3, .int (iI (e9 : Int))), (4, .int (iI (gs.length : Int)))]) hx hb dMO_gatherHalves_134 hl (k := 5) rfl (by decide) rfl (fun ls hl => ?_)
                refine lv_goto (tgt := 106) hx hb dMO_gatherHalves_137 (by decide) ?_
                exact ih106 (c8 + 1) (h9 + 1) m4 fo4 (zu fh2 g ((h9 : Int) + 1)) fj5 (by omega) (HVI.yes hG hs hgs hall hV (by omega) hc1.1 hln.2 (by have := hV.1; omega) hI5 hw5 hq1 hq3) (by rw [zu_s]; rfl) (fun t h8 => by rw [zu_n _ _ h8]; exact hf1 t h8) (fun t h8 => by
                    have hv1 := hV.1
                    have hp5 := hI5.1
                    rcases h8 with h8 | h8
                    · rw [hI5.2.1 t (by omega)]; exact hf2 t (Or.inl h8)
                    · rw [hI5.2.2.2.2.1 t h8]; exact hf2 t (Or.inr h8)) (by omega) _ _ (hP.sub [5, 0, 1, 2, 6, 3, 4, 7, 8] rfl) (hD.sub [5, 0, 1, 2, 6, 3, 4, 7, 8] (by decide) rfl) hS _ (lv_sub hl [1, 2, 3, 4, 5, 0] rfl)
        exact lp106 _ 1 0 m1 fo1 (zu fh g 0) fj ⟨Nat.le_refl _, Nat.two_pow_pos _⟩ (HVI.start ks gs fj _) (zu_s ..) (fun t h8 => zu_n _ _ h8) (fun t _ => rfl) (Nat.lt_succ_self _) _ _ (hP.sub [0, 1, 2, 3, 4, 5, 6, 7, 8] rfl) (hD.sub [0, 1, 2, 3, 4, 5, 6, 7, 8] (by decide) rfl) hS _ (lv_sub hl [1, 2, 3, 4, 5, 0] rfl)
      · refine lv_iload hx hb dMO_gatherHalves_24 (lv_at hl 5 rfl) ?_
        refine lv_iload_n hx hb dMO_gatherHalves_26 rfl (lv_at hl 2 rfl) ?_
        refine lz_icmp_ge (tgt := 96) hx hb dMO_gatherHalves_27 (by decide) (by omega) (by omega) (fun c_27 => ?_) (fun c_27 => ?_)
        · have hall : ∀ x ∈ ks, Reach gs x := fun x hx9 => (hgk.2.2.1 x).mp (full_sub (nodup_lt hgk.1) hKs (by omega) x hx9)
          have h2p : 2 ^ gs.length ≤ 128 := pow_le128 (by omega)
          refine lv_aload_n hx hb dMO_gatherHalves_96 rfl (lv_at hl 0 rfl) ?_
          refine va_get (D := D) (ci := 7) (v := .ref q.xh) (C := nMO) (T := fMO) (N := 24) hx hb hts iwMO hown hK hP 0 rfl rfl 13 (by decide) (hts _ (List.mem_cons_of_mem _ lkMO_40)) (fun _ h9 => h9) rfl dMO_gatherHalves_97 ?_
          refine lv_iload_n hx hb dMO_gatherHalves_100 rfl (lv_at hl 1 rfl) ?_
          refine lv_iconst (v := iI (0)) hx hb dMO_gatherHalves_101 rfl ?_
          refine lz_iask hx hb hK hP hD hS 7 0 rfl rfl (z := (g : Int)) (v := 0) g rfl (by omega) dMO_gatherHalves_102 (fun H locs hP hD hS => ?_)
          have hP : va_P D vwCl [(moC q cn gn ln), (q.xm, .inl (cI, 7680, .inl (zf fm))), (q.xz, .inl (cI, 40, .inl (zf fz))), (q.xt, .inl (cI, 36864, .inl (zf ft))), (q.xr, .inl (cI, 200, .inl (zf m1))), (q.xg, .inl (cI, 16, .inl (zf fg1))), (q.xo, .inl (cI, 200, .inl (zf fo1))), (q.xh, .inl (cI, 40, .inl (zf (zu fh g 0)))), (q.xj, .inl (cJ, 15360, .inr (.inl fj)))] H := hP
          have hD : va_D A [(moC q cn gn ln), (q.xm, .inl (cI, 7680, .inl (zf fm))), (q.xz, .inl (cI, 40, .inl (zf fz))), (q.xt, .inl (cI, 36864, .inl (zf ft))), (q.xr, .inl (cI, 200, .inl (zf m1))), (q.xg, .inl (cI, 16, .inl (zf fg1))), (q.xo, .inl (cI, 200, .inl (zf fo1))), (q.xh, .inl (cI, 40, .inl (zf (zu fh g 0)))), (q.xj, .inl (cJ, 15360, .inr (.inl fj)))] := hD
          refine lv_iconst (v := iI (1)) hx hb dMO_gatherHalves_103 rfl ?_
          refine lv_istore (lv' := [(6, .int (iI 1)), (0, .ref q.mo), (1, .int (iI (g : Int))), (2, .int (iI (ks.length : Int))), (3, .int (iI (e9 : Int))), (4, .int (iI (gs.length : Int))), (5, .int (iI (K.length : Int)))]) hx hb dMO_gatherHalves_104 hl (by decide) rfl (fun ls hl => ?_)
          rw [show 1 = ((1 : Nat) : Int) from rfl] at hl
          have lp106 : ∀ (n9 : Nat) (c8 h9 : Nat) (m2 fo2 fh2 : Nat → Int) (fj2 : Nat → Int64), (1 ≤ c8 ∧ c8 ≤ 2 ^ gs.length) → (HVI ks gs fj2 (384 * g) h9 c8) → (fh2 g = (h9 : Int)) → (∀ t, t ≠ g → fh2 t = fh t) → (∀ t, (t < 384 * g ∨ 384 * g + 384 ≤ t) → fj2 t = fj t) → (2 ^ gs.length - c8) < n9 → ∀ (H : Heap) (locs : List Loc), va_P D vwCl [(moC q cn gn ln), (q.xm, .inl (cI, 7680, .inl (zf fm))), (q.xz, .inl (cI, 40, .inl (zf fz))), (q.xt, .inl (cI, 36864, .inl (zf ft))), (q.xr, .inl (cI, 200, .inl (zf m2))), (q.xg, .inl (cI, 16, .inl (zf fg1))), (q.xo, .inl (cI, 200, .inl (zf fo2))), (q.xh, .inl (cI, 40, .inl (zf fh2))), (q.xj, .inl (cJ, 15360, .inr (.inl fj2)))] H → va_D A [(moC q cn gn ln), (q.xm, .inl (cI, 7680, .inl (zf fm))), (q.xz, .inl (cI, 40, .inl (zf fz))), (q.xt, .inl (cI, 36864, .inl (zf ft))), (q.xr, .inl (cI, 200, .inl (zf m2))), (q.xg, .inl (cI, 16, .inl (zf fg1))), (q.xo, .inl (cI, 200, .inl (zf fo2))), (q.xh, .inl (cI, 40, .inl (zf fh2))), (q.xj, .inl (cJ, 15360, .inr (.inl fj2)))] → va_S A s.heap H locs → ∀ (ls : Array Slot), lv_has ls 8 [(0, .ref q.mo), (1, .int (iI (g : Int))), (2, .int (iI (ks.length : Int))), (3, .int (iI (e9 : Int))), (4, .int (iI (gs.length : Int))), (6, .int (iI (c8 : Int)))] → W p l e (headSpec wMO_gatherHalves rmMO_gatherHalves).room s m args below meth c H locs 0 0 Q (F0 m 106 ls []) := by
            intro n9
            induction n9 with
            | zero => intro c8 h9 m2 fo2 fh2 fj2 hc1 hV hh9 hf1 hf2 hm; exact absurd hm (Nat.not_lt_zero _)
            | succ n9 ih106 =>
              intro c8 h9 m2 fo2 fh2 fj2 hc1 hV hh9 hf1 hf2 hm106 H locs hP hD hS ls hl
              refine lv_iload hx hb dMO_gatherHalves_106 (lv_at hl 5 rfl) ?_
              refine lv_iconst (v := iI (1)) hx hb dMO_gatherHalves_108 rfl ?_
              refine lv_iload hx hb dMO_gatherHalves_109 (lv_at hl 4 rfl) ?_
              refine lz_ishl (z := ((2 ^ gs.length : Nat) : Int)) hx hb dMO_gatherHalves_111 (sh_1 _ (by omega)) ?_
              refine lz_icmp_ge (tgt := 140) hx hb dMO_gatherHalves_112 (by decide) (by omega) (by have hpi : (0 : Int) ≤ ((2 ^ gs.length : Nat) : Int) ∧ ((2 ^ gs.length : Nat) : Int) ≤ 128 := ⟨Int.natCast_nonneg _, Int.ofNat_le.mpr h2p⟩; omega) (fun c_112 => ?_) (fun c_112 => ?_)
              · have hcge : 2 ^ gs.length ≤ c8 := Int.ofNat_le.mp c_112
                exact hret H locs 0 0 140 ls (m2, fg1, fo2, fh2, fj2) ⟨⟨h9, hh9, HVI.done hG hs hgs hall hg7 (by rw [show 2 ^ gs.length = c8 by omega]; exact hV)⟩, hf1, hf2⟩ (hP.sub [0, 1, 2, 3, 4, 5, 6, 7, 8] rfl) (hD.sub [0, 1, 2, 3, 4, 5, 6, 7, 8] (by decide) rfl) hS (Nat.zero_le _) (Nat.zero_le _) dMO_gatherHalves_140
              · have hclt : c8 < 2 ^ gs.length := Int.ofNat_lt.mp c_112
                refine lv_aload_n hx hb dMO_gatherHalves_115 rfl (lv_at hl 0 rfl) ?_
                refine lv_iload_n hx hb dMO_gatherHalves_116 rfl (lv_at hl 3 rfl) ?_
                refine lv_iload_n hx hb dMO_gatherHalves_117 rfl (lv_at hl 2 rfl) ?_
                refine lv_iload hx hb dMO_gatherHalves_118 (lv_at hl 4 rfl) ?_
                refine lv_iload hx hb dMO_gatherHalves_120 (lv_at hl 5 rfl) ?_
                refine zI.back (va_runV (As := [.int (iI (e9 : Int)), .int (iI (ks.length : Int)), .int (iI (gs.length : Int)), .int (iI (c8 : Int))]) (rest := []) ⟨hx, hb, hml, hown, hts⟩ ((mMO_isHalf l D cI cJ cZ q cn gn ln ks e9 gs c8 ft m2 fg1 fo2 hG hs hln.2 he9 hu ht hg7 hge hall (by omega)) H.size) (cwV 4 hts (gT1 lkMO_136 (gT1 imMO_isHalf (gT1 seMO_isHalf (gT1 iniMO (gTW kcMO_isHalf))))) rfl rfl rfl (by decide +kernel) ⟨Nat.le_of_ble_eq_true rfl, Nat.le_of_ble_eq_true rfl⟩) ⟨zPre_blind, va_recv hK hP (ci := 7) (q0 := 0) rfl rfl, zPre.at (wc := [(moC q cn gn ln), (q.xt, .inl (cI, 36864, .inl (zf ft))), (q.xr, .inl (cI, 200, .inl (zf m2))), (q.xg, .inl (cI, 16, .inl (zf fg1))), (q.xo, .inl (cI, 200, .inl (zf fo2)))]) hK hP hD hS hA hX [0, 3, 4, 5, 6] (by decide) rfl⟩ rfl rfl hl.1 rfl (lv_room (Nat.le_of_ble_eq_true rfl)) dMO_gatherHalves_122 ⟨Nat.le_of_ble_eq_true rfl, Nat.le_of_ble_eq_true rfl⟩) (wr := [(q.xm, .inl (cI, 7680, .inl (zf fm))), (q.xz, .inl (cI, 40, .inl (zf fz))), (q.xh, .inl (cI, 40, .inl (zf fh2))), (q.xj, .inl (cJ, 15360, .inr (.inl fj2)))]) hP hD hS hA [0, 3, 4, 5, 6] [1, 2, 7, 8] rfl rfl (by decide) (by decide) (fun z_122 u_122 H locs q_122 hP hD hS hz_122 hk_122 => ?_)
                obtain ⟨m4, fo4⟩ := u_122
                have hP : va_P D vwCl [(q.xm, .inl (cI, 7680, .inl (zf fm))), (q.xz, .inl (cI, 40, .inl (zf fz))), (q.xh, .inl (cI, 40, .inl (zf fh2))), (q.xj, .inl (cJ, 15360, .inr (.inl fj2))), (moC q cn gn ln), (q.xt, .inl (cI, 36864, .inl (zf ft))), (q.xr, .inl (cI, 200, .inl (zf m4))), (q.xg, .inl (cI, 16, .inl (zf fg1))), (q.xo, .inl (cI, 200, .inl (zf fo4)))] H := hP
                have hD : va_D A [(q.xm, .inl (cI, 7680, .inl (zf fm))), (q.xz, .inl (cI, 40, .inl (zf fz))), (q.xh, .inl (cI, 40, .inl (zf fh2))), (q.xj, .inl (cJ, 15360, .inr (.inl fj2))), (moC q cn gn ln), (q.xt, .inl (cI, 36864, .inl (zf ft))), (q.xr, .inl (cI, 200, .inl (zf m4))), (q.xg, .inl (cI, 16, .inl (zf fg1))), (q.xo, .inl (cI, 200, .inl (zf fo4)))] := hD
                refine lz_if_eq (tgt := 134) hx hb dMO_gatherHalves_125 (by decide) (by rcases q_122 with ⟨q9, _⟩ | ⟨q9, _⟩ <;> omega) (fun c_125 => ?_) (fun c_125 => ?_)
                · refine lz_iinc (lv' := [(6, .int (iI ((c8 : Int) + 1))), (0, .ref q.mo), (1, .int (iI (g : Int))), (2, .int (iI (ks.length : Int))), (3, .int (iI (e9 : Int))), (4, .int (iI (gs.length : Int)))]) hx hb dMO_gatherHalves_134 hl (k := 5) rfl (by decide) rfl (fun ls hl => ?_)
                  refine lv_goto (tgt := 106) hx hb dMO_gatherHalves_137 (by decide) ?_
                  exact ih106 (c8 + 1) h9 m4 fo4 fh2 fj2 (by omega) (hV.no (by rcases q_122 with ⟨q9, _⟩ | ⟨_, q9⟩ <;> first | exact q9 | omega)) hh9 hf1 hf2 (by omega) _ _ (hP.sub [4, 0, 1, 5, 6, 7, 8, 2, 3] rfl) (hD.sub [4, 0, 1, 5, 6, 7, 8, 2, 3] (by decide) rfl) hS _ (lv_sub hl [1, 2, 3, 4, 5, 0] rfl)
                · obtain ⟨hq1, hq2, hq3⟩ : chiB ks (fun t => m4 t = 1) ∧ (∀ t, t < ks.length → m4 t = 1 ∨ m4 t = 2) ∧ gSg ks gs c8 (fun t => m4 t = 1) := by rcases q_122 with ⟨_, q9⟩ | ⟨q9, _⟩ <;> first | exact q9 | omega
                  refine lv_aload_n hx hb dMO_gatherHalves_128 rfl (lv_at hl 0 rfl) ?_
                  refine lv_iload_n hx hb dMO_gatherHalves_129 rfl (lv_at hl 1 rfl) ?_
                  refine lv_iload_n hx hb dMO_gatherHalves_130 rfl (lv_at hl 2 rfl) ?_
                  refine zV.back (va_runV (As := [.int (iI (g : Int)), .int (iI (ks.length : Int))]) (rest := []) ⟨hx, hb, hml, hown, hts⟩ ((mMO_keepHalf l D cI cJ cZ q cn gn ln ks g h9 m4 fh2 fj2 hln.2 hg hh9 (by have := hV.1; omega) hq2) H.size) (cwV 2 hts (gT1 lkMO_140 (gT1 imMO_keepHalf (gT1 seMO_keepHalf (gT1 iniMO (gTW kcMO_keepHalf))))) rfl rfl rfl (by decide +kernel) ⟨Nat.le_of_ble_eq_true rfl, Nat.le_of_ble_eq_true rfl⟩) ⟨zPre_blind, va_recv hK hP (ci := 7) (q0 := 4) rfl rfl, zPre.at (wc := [(moC q cn gn ln), (q.xr, .inl (cI, 200, .inl (zf m4))), (q.xh, .inl (cI, 40, .inl (zf fh2))), (q.xj, .inl (cJ, 15360, .inr (.inl fj2)))]) hK hP hD hS hA hX [4, 6, 2, 3] (by decide) rfl⟩ rfl rfl hl.1 rfl (lv_room (Nat.le_of_ble_eq_true rfl)) dMO_gatherHalves_131 ⟨Nat.le_of_ble_eq_true rfl, Nat.le_of_ble_eq_true rfl⟩) (wr := [(q.xm, .inl (cI, 7680, .inl (zf fm))), (q.xz, .inl (cI, 40, .inl (zf fz))), (q.xt, .inl (cI, 36864, .inl (zf ft))), (q.xg, .inl (cI, 16, .inl (zf fg1))), (q.xo, .inl (cI, 200, .inl (zf fo4)))]) hP hD hS hA [4, 6, 2, 3] [0, 1, 5, 7, 8] rfl rfl (by decide) (by decide) (fun u_131 H locs q_131 hP hD hS hz_131 hk_131 => ?_)
                  obtain ⟨p5, a5, b5, w5, hw5, hI5⟩ := q_131
                  generalize u_131 = fj5 at hP hD hI5
                  have hP : va_P D vwCl [(q.xm, .inl (cI, 7680, .inl (zf fm))), (q.xz, .inl (cI, 40, .inl (zf fz))), (q.xt, .inl (cI, 36864, .inl (zf ft))), (q.xg, .inl (cI, 16, .inl (zf fg1))), (q.xo, .inl (cI, 200, .inl (zf fo4))), (moC q cn gn ln), (q.xr, .inl (cI, 200, .inl (zf m4))), (q.xh, .inl (cI, 40, .inl (zf (zu fh2 g ((h9 : Int) + 1))))), (q.xj, .inl (cJ, 15360, .inr (.inl fj5)))] H := hP
                  have hD : va_D A [(q.xm, .inl (cI, 7680, .inl (zf fm))), (q.xz, .inl (cI, 40, .inl (zf fz))), (q.xt, .inl (cI, 36864, .inl (zf ft))), (q.xg, .inl (cI, 16, .inl (zf fg1))), (q.xo, .inl (cI, 200, .inl (zf fo4))), (moC q cn gn ln), (q.xr, .inl (cI, 200, .inl (zf m4))), (q.xh, .inl (cI, 40, .inl (zf (zu fh2 g ((h9 : Int) + 1))))), (q.xj, .inl (cJ, 15360, .inr (.inl fj5)))] := hD
                  refine lz_iinc (lv' := [(6, .int (iI ((c8 : Int) + 1))), (0, .ref q.mo), (1, .int (iI (g : Int))), (2, .int (iI (ks.length : Int))), (3, .int (iI (e9 : Int))), (4, .int (iI (gs.length : Int)))]) hx hb dMO_gatherHalves_134 hl (k := 5) rfl (by decide) rfl (fun ls hl => ?_)
                  refine lv_goto (tgt := 106) hx hb dMO_gatherHalves_137 (by decide) ?_
                  exact ih106 (c8 + 1) (h9 + 1) m4 fo4 (zu fh2 g ((h9 : Int) + 1)) fj5 (by omega) (HVI.yes hG hs hgs hall hV (by omega) hc1.1 hln.2 (by have := hV.1; omega) hI5 hw5 hq1 hq3) (by rw [zu_s]; rfl) (fun t h8 => by rw [zu_n _ _ h8]; exact hf1 t h8) (fun t h8 => by
                      have hv1 := hV.1
                      have hp5 := hI5.1
                      rcases h8 with h8 | h8
                      · rw [hI5.2.1 t (by omega)]; exact hf2 t (Or.inl h8)
                      · rw [hI5.2.2.2.2.1 t h8]; exact hf2 t (Or.inr h8)) (by omega) _ _ (hP.sub [5, 0, 1, 2, 6, 3, 4, 7, 8] rfl) (hD.sub [5, 0, 1, 2, 6, 3, 4, 7, 8] (by decide) rfl) hS _ (lv_sub hl [1, 2, 3, 4, 5, 0] rfl)
          exact lp106 _ 1 0 m1 fo1 (zu fh g 0) fj ⟨Nat.le_refl _, Nat.two_pow_pos _⟩ (HVI.start ks gs fj _) (zu_s ..) (fun t h8 => zu_n _ _ h8) (fun t _ => rfl) (Nat.lt_succ_self _) _ _ (hP.sub [0, 1, 2, 3, 4, 5, 6, 7, 8] rfl) (hD.sub [0, 1, 2, 3, 4, 5, 6, 7, 8] (by decide) rfl) hS _ (lv_sub hl [1, 2, 3, 4, 5, 0] rfl)
        · refine lv_iconst (v := iI (0)) hx hb dMO_gatherHalves_30 rfl ?_
          refine lv_istore (lv' := [(7, .int (iI 0)), (0, .ref q.mo), (1, .int (iI (g : Int))), (2, .int (iI (ks.length : Int))), (3, .int (iI (e9 : Int))), (4, .int (iI (gs.length : Int))), (5, .int (iI (K.length : Int))), (6, .int (iI (k : Int)))]) hx hb dMO_gatherHalves_31 hl (by decide) rfl (fun ls hl => ?_)
          have lp33 : ∀ (n9 : Nat) (i : Nat) (m0 : Nat → Int), (i ≤ ks.length) → (∀ t, t < i → m0 t = 0) → (ks.length - i) < n9 → ∀ (H : Heap) (locs : List Loc), va_P D vwCl [(moC q cn gn ln), (q.xm, .inl (cI, 7680, .inl (zf fm))), (q.xz, .inl (cI, 40, .inl (zf fz))), (q.xt, .inl (cI, 36864, .inl (zf ft))), (q.xr, .inl (cI, 200, .inl (zf m0))), (q.xg, .inl (cI, 16, .inl (zf fg1))), (q.xo, .inl (cI, 200, .inl (zf fo1))), (q.xh, .inl (cI, 40, .inl (zf fh))), (q.xj, .inl (cJ, 15360, .inr (.inl fj)))] H → va_D A [(moC q cn gn ln), (q.xm, .inl (cI, 7680, .inl (zf fm))), (q.xz, .inl (cI, 40, .inl (zf fz))), (q.xt, .inl (cI, 36864, .inl (zf ft))), (q.xr, .inl (cI, 200, .inl (zf m0))), (q.xg, .inl (cI, 16, .inl (zf fg1))), (q.xo, .inl (cI, 200, .inl (zf fo1))), (q.xh, .inl (cI, 40, .inl (zf fh))), (q.xj, .inl (cJ, 15360, .inr (.inl fj)))] → va_S A s.heap H locs → ∀ (ls : Array Slot), lv_has ls 8 [(0, .ref q.mo), (1, .int (iI (g : Int))), (2, .int (iI (ks.length : Int))), (3, .int (iI (e9 : Int))), (4, .int (iI (gs.length : Int))), (5, .int (iI (K.length : Int))), (6, .int (iI (k : Int))), (7, .int (iI (i : Int)))] → W p l e (headSpec wMO_gatherHalves rmMO_gatherHalves).room s m args below meth c H locs 0 0 Q (F0 m 33 ls []) := by
            intro n9
            induction n9 with
            | zero => intro i m0 hi hz0 hm; exact absurd hm (Nat.not_lt_zero _)
            | succ n9 ih33 =>
              intro i m0 hi hz0 hm33 H locs hP hD hS ls hl
              refine lv_iload hx hb dMO_gatherHalves_33 (lv_at hl 7 rfl) ?_
              refine lv_iload_n hx hb dMO_gatherHalves_35 rfl (lv_at hl 2 rfl) ?_
              refine lz_icmp_ge (tgt := 53) hx hb dMO_gatherHalves_36 (by decide) (by omega) (by omega) (fun c_36 => ?_) (fun c_36 => ?_)
              · have hz1 : ∀ b, b < ks.length → m0 b = 0 := fun b hb => hz0 b (by omega)
                have hxv := hG.2.2.1 _ (getD_mem (ks := ks) (j := k) (by omega))
                have hge2 := hge.push (t := k) (x := ks.getD k (-1)) (by omega) rfl
                refine lv_aload_n hx hb dMO_gatherHalves_53 rfl (lv_at hl 0 rfl) ?_
                refine va_get (D := D) (ci := 7) (v := .ref q.xg) (C := nMO) (T := fMO) (N := 24) hx hb hts iwMO hown hK hP 0 rfl rfl 18 (by decide) (hts _ (List.mem_cons_of_mem _ lkMO_58)) (fun _ h9 => h9) rfl dMO_gatherHalves_54 ?_
                refine lv_iload hx hb dMO_gatherHalves_57 (lv_at hl 4 rfl) ?_
                refine lv_iload hx hb dMO_gatherHalves_59 (lv_at hl 6 rfl) ?_
                refine lz_iask hx hb hK hP hD hS 5 0 rfl rfl (z := (gs.length : Int)) (v := (k : Int)) gs.length rfl (by omega) dMO_gatherHalves_61 (fun H locs hP hD hS => ?_)
                have hP : va_P D vwCl [(moC q cn gn ln), (q.xm, .inl (cI, 7680, .inl (zf fm))), (q.xz, .inl (cI, 40, .inl (zf fz))), (q.xt, .inl (cI, 36864, .inl (zf ft))), (q.xr, .inl (cI, 200, .inl (zf m0))), (q.xg, .inl (cI, 16, .inl (zf (zu fg1 gs.length (k : Int))))), (q.xo, .inl (cI, 200, .inl (zf fo1))), (q.xh, .inl (cI, 40, .inl (zf fh))), (q.xj, .inl (cJ, 15360, .inr (.inl fj)))] H := hP
                have hD : va_D A [(moC q cn gn ln), (q.xm, .inl (cI, 7680, .inl (zf fm))), (q.xz, .inl (cI, 40, .inl (zf fz))), (q.xt, .inl (cI, 36864, .inl (zf ft))), (q.xr, .inl (cI, 200, .inl (zf m0))), (q.xg, .inl (cI, 16, .inl (zf (zu fg1 gs.length (k : Int))))), (q.xo, .inl (cI, 200, .inl (zf fo1))), (q.xh, .inl (cI, 40, .inl (zf fh))), (q.xj, .inl (cJ, 15360, .inr (.inl fj)))] := hD
                refine lv_aload_n hx hb dMO_gatherHalves_62 rfl (lv_at hl 0 rfl) ?_
                refine lv_iload_n hx hb dMO_gatherHalves_63 rfl (lv_at hl 3 rfl) ?_
                refine lv_iload hx hb dMO_gatherHalves_64 (lv_at hl 4 rfl) ?_
                refine lv_iconst (v := iI (1)) hx hb dMO_gatherHalves_66 rfl ?_
                refine lz_iadd hx hb dMO_gatherHalves_67 ?_
                refine lz_as (x := (gs.length : Int) + 1) (y := ((gs ++ [ks.getD k (-1)]).length : Int)) (by rw [len_snoc]; rfl) ?_
                refine zI.back (va_runV (As := [.int (iI (e9 : Int)), .int (iI ((gs ++ [ks.getD k (-1)]).length : Int))]) (rest := []) ⟨hx, hb, hml, hown, hts⟩ ((mMO_made l D cI cJ cZ q cn gn ln ks e9 (gs ++ [ks.getD k (-1)]) ft m0 (zu fg1 gs.length (k : Int)) fo1 hG hs hln.2 he9 hu ht (by rw [len_snoc]; omega) hge2 hz1) H.size) (cwV 2 hts (gT1 lkMO_133 (gT1 imMO_made (gT1 seMO_made (gT1 iniMO (gTW kcMO_made))))) rfl rfl rfl (by decide +kernel) ⟨Nat.le_of_ble_eq_true rfl, Nat.le_of_ble_eq_true rfl⟩) ⟨zPre_blind, va_recv hK hP (ci := 7) (q0 := 0) rfl rfl, zPre.at (wc := [(moC q cn gn ln), (q.xt, .inl (cI, 36864, .inl (zf ft))), (q.xr, .inl (cI, 200, .inl (zf m0))), (q.xg, .inl (cI, 16, .inl (zf (zu fg1 gs.length (k : Int))))), (q.xo, .inl (cI, 200, .inl (zf fo1)))]) hK hP hD hS hA hX [0, 3, 4, 5, 6] (by decide) rfl⟩ rfl rfl hl.1 rfl (lv_room (Nat.le_of_ble_eq_true rfl)) dMO_gatherHalves_68 ⟨Nat.le_of_ble_eq_true rfl, Nat.le_of_ble_eq_true rfl⟩) (wr := [(q.xm, .inl (cI, 7680, .inl (zf fm))), (q.xz, .inl (cI, 40, .inl (zf fz))), (q.xh, .inl (cI, 40, .inl (zf fh))), (q.xj, .inl (cJ, 15360, .inr (.inl fj)))]) hP hD hS hA [0, 3, 4, 5, 6] [1, 2, 7, 8] rfl rfl (by decide) (by decide) (fun z_68 u_68 H locs q_68 hP hD hS hz_68 hk_68 => ?_)
                obtain ⟨m3, fo3⟩ := u_68
                obtain ⟨K2, hgk2, hz2, hKs2⟩ := q_68
                obtain rfl : z_68 = (K2.length : Int) := hz2
                have hK2l : K2.length ≤ ks.length := sub_len (nodup_lt hgk2.1) hKs2
                have hP : va_P D vwCl [(q.xm, .inl (cI, 7680, .inl (zf fm))), (q.xz, .inl (cI, 40, .inl (zf fz))), (q.xh, .inl (cI, 40, .inl (zf fh))), (q.xj, .inl (cJ, 15360, .inr (.inl fj))), (moC q cn gn ln), (q.xt, .inl (cI, 36864, .inl (zf ft))), (q.xr, .inl (cI, 200, .inl (zf m3))), (q.xg, .inl (cI, 16, .inl (zf (zu fg1 gs.length (k : Int))))), (q.xo, .inl (cI, 200, .inl (zf fo3)))] H := hP
                have hD : va_D A [(q.xm, .inl (cI, 7680, .inl (zf fm))), (q.xz, .inl (cI, 40, .inl (zf fz))), (q.xh, .inl (cI, 40, .inl (zf fh))), (q.xj, .inl (cJ, 15360, .inr (.inl fj))), (moC q cn gn ln), (q.xt, .inl (cI, 36864, .inl (zf ft))), (q.xr, .inl (cI, 200, .inl (zf m3))), (q.xg, .inl (cI, 16, .inl (zf (zu fg1 gs.length (k : Int))))), (q.xo, .inl (cI, 200, .inl (zf fo3)))] := hD
                refine lv_istore (lv' := [(7, .int (iI (K2.length : Int))), (0, .ref q.mo), (1, .int (iI (g : Int))), (2, .int (iI (ks.length : Int))), (3, .int (iI (e9 : Int))), (4, .int (iI (gs.length : Int))), (5, .int (iI (K.length : Int))), (6, .int (iI (k : Int)))]) hx hb dMO_gatherHalves_71 hl (by decide) rfl (fun ls hl => ?_)
                refine lv_iload hx hb dMO_gatherHalves_73 (lv_at hl 0 rfl) ?_
                refine lv_iload hx hb dMO_gatherHalves_75 (lv_at hl 6 rfl) ?_
                refine lz_icmp_ne (tgt := 83) hx hb dMO_gatherHalves_77 (by decide) (by omega) (by omega) (fun c_77 => ?_) (fun c_77 => ?_)
                · refine lv_iload hx hb dMO_gatherHalves_83 (lv_at hl 0 rfl) ?_
                  refine lv_istore (lv' := [(5, .int (iI (K2.length : Int))), (7, .int (iI (K2.length : Int))), (0, .ref q.mo), (1, .int (iI (g : Int))), (2, .int (iI (ks.length : Int))), (3, .int (iI (e9 : Int))), (4, .int (iI (gs.length : Int))), (6, .int (iI (k : Int)))]) hx hb dMO_gatherHalves_85 hl (by decide) rfl (fun ls hl => ?_)
                  refine lz_iinc (lv' := [(4, .int (iI ((gs.length : Int) + 1))), (5, .int (iI (K2.length : Int))), (7, .int (iI (K2.length : Int))), (0, .ref q.mo), (1, .int (iI (g : Int))), (2, .int (iI (ks.length : Int))), (3, .int (iI (e9 : Int))), (6, .int (iI (k : Int)))]) hx hb dMO_gatherHalves_87 hl (k := 6) rfl (by decide) rfl (fun ls hl => ?_)
                  refine lz_iinc (lv' := [(6, .int (iI ((k : Int) + 1))), (4, .int (iI ((gs.length : Int) + 1))), (5, .int (iI (K2.length : Int))), (7, .int (iI (K2.length : Int))), (0, .ref q.mo), (1, .int (iI (g : Int))), (2, .int (iI (ks.length : Int))), (3, .int (iI (e9 : Int)))]) hx hb dMO_gatherHalves_90 hl (k := 7) rfl (by decide) rfl (fun ls hl => ?_)
                  refine lv_goto (tgt := 18) hx hb dMO_gatherHalves_93 (by decide) ?_
                  rw [show (gs.length : Int) + 1 = ((gs ++ [ks.getD k (-1)]).length : Int) from by rw [len_snoc]; rfl] at hl
                  exact ih18 (k + 1) (gs ++ [ks.getD k (-1)]) K2 m3 (zu fg1 gs.length (k : Int)) fo3 (by omega) hgk2 hKs2 (gen_push (fun a ha => hG.2.2.1 a (hgs a ha)) hxv hgk hgk2 (by omega) hpw) hge2 (fun j hj => by
                      rcases Nat.lt_or_ge j k with g9 | g9
                      · exact gen_sub hgk hgk2 _ (hin j g9)
                      · obtain rfl : j = k := by omega
                        exact gen_in hxv hgk2) (by omega) _ _ (hP.sub [4, 0, 1, 5, 6, 7, 8, 2, 3] rfl) (hD.sub [4, 0, 1, 5, 6, 7, 8, 2, 3] (by decide) rfl) hS _ (lv_sub hl [4, 5, 6, 7, 1, 2, 0] rfl)
                · refine lv_goto (tgt := 90) hx hb dMO_gatherHalves_80 (by decide) ?_
                  refine lz_iinc (lv' := [(6, .int (iI ((k : Int) + 1))), (7, .int (iI (K2.length : Int))), (0, .ref q.mo), (1, .int (iI (g : Int))), (2, .int (iI (ks.length : Int))), (3, .int (iI (e9 : Int))), (4, .int (iI (gs.length : Int))), (5, .int (iI (K.length : Int)))]) hx hb dMO_gatherHalves_90 hl (k := 7) rfl (by decide) rfl (fun ls hl => ?_)
                  refine lv_goto (tgt := 18) hx hb dMO_gatherHalves_93 (by decide) ?_
                  exact ih18 (k + 1) gs K m3 (zu fg1 gs.length (k : Int)) fo3 (by omega) hgk hKs hpw (hge.keep (Nat.le_refl _)) (fun j hj => by
                      rcases Nat.lt_or_ge j k with g9 | g9
                      · exact hin j g9
                      · obtain rfl : j = k := by omega
                        exact gen_same hxv hgk hgk2 (by omega)) (by omega) _ _ (hP.sub [4, 0, 1, 5, 6, 7, 8, 2, 3] rfl) (hD.sub [4, 0, 1, 5, 6, 7, 8, 2, 3] (by decide) rfl) hS _ (lv_sub hl [2, 3, 4, 5, 6, 7, 0] rfl)
              · refine lv_aload_n hx hb dMO_gatherHalves_39 rfl (lv_at hl 0 rfl) ?_
                refine va_get (D := D) (ci := 7) (v := .ref q.xr) (C := nMO) (T := fMO) (N := 24) hx hb hts iwMO hown hK hP 0 rfl rfl 17 (by decide) (hts _ (List.mem_cons_of_mem _ lkMO_55)) (fun _ h9 => h9) rfl dMO_gatherHalves_40 ?_
                refine lv_iload hx hb dMO_gatherHalves_43 (lv_at hl 7 rfl) ?_
                refine lv_iconst (v := iI (0)) hx hb dMO_gatherHalves_45 rfl ?_
                refine lz_iask hx hb hK hP hD hS 4 0 rfl rfl (z := (i : Int)) (v := 0) i rfl (by omega) dMO_gatherHalves_46 (fun H locs hP hD hS => ?_)
                have hP : va_P D vwCl [(moC q cn gn ln), (q.xm, .inl (cI, 7680, .inl (zf fm))), (q.xz, .inl (cI, 40, .inl (zf fz))), (q.xt, .inl (cI, 36864, .inl (zf ft))), (q.xr, .inl (cI, 200, .inl (zf (zu m0 i 0)))), (q.xg, .inl (cI, 16, .inl (zf fg1))), (q.xo, .inl (cI, 200, .inl (zf fo1))), (q.xh, .inl (cI, 40, .inl (zf fh))), (q.xj, .inl (cJ, 15360, .inr (.inl fj)))] H := hP
                have hD : va_D A [(moC q cn gn ln), (q.xm, .inl (cI, 7680, .inl (zf fm))), (q.xz, .inl (cI, 40, .inl (zf fz))), (q.xt, .inl (cI, 36864, .inl (zf ft))), (q.xr, .inl (cI, 200, .inl (zf (zu m0 i 0)))), (q.xg, .inl (cI, 16, .inl (zf fg1))), (q.xo, .inl (cI, 200, .inl (zf fo1))), (q.xh, .inl (cI, 40, .inl (zf fh))), (q.xj, .inl (cJ, 15360, .inr (.inl fj)))] := hD
                refine lz_iinc (lv' := [(7, .int (iI ((i : Int) + 1))), (0, .ref q.mo), (1, .int (iI (g : Int))), (2, .int (iI (ks.length : Int))), (3, .int (iI (e9 : Int))), (4, .int (iI (gs.length : Int))), (5, .int (iI (K.length : Int))), (6, .int (iI (k : Int)))]) hx hb dMO_gatherHalves_47 hl (k := 7) rfl (by decide) rfl (fun ls hl => ?_)
                refine lv_goto (tgt := 33) hx hb dMO_gatherHalves_50 (by decide) ?_
                exact ih33 (i + 1) (zu m0 i 0) (by omega) (fun t ht => by
                    by_cases e : t = i
                    · rw [e, zu_s]
                    · rw [zu_n _ _ e]; exact hz0 t (by omega)) (by omega) _ _ (hP.sub [0, 1, 2, 3, 4, 5, 6, 7, 8] rfl) (hD.sub [0, 1, 2, 3, 4, 5, 6, 7, 8] (by decide) rfl) hS _ (lv_sub hl [1, 2, 3, 4, 5, 6, 7, 0] rfl)
          exact lp33 _ 0 m1 (Nat.zero_le _) (fun t ht => absurd ht (Nat.not_lt_zero _)) (Nat.lt_succ_self _) _ _ (hP.sub [0, 1, 2, 3, 4, 5, 6, 7, 8] rfl) (hD.sub [0, 1, 2, 3, 4, 5, 6, 7, 8] (by decide) rfl) hS _ (lv_sub hl [1, 2, 3, 4, 5, 6, 7, 0] rfl)
  exact lp18 _ 0 ([]) ([u0]) mk fg fo (Nat.zero_le _) gen_u0 (fun x hx9 => by rw [List.mem_singleton.mp hx9]; exact hG.2.1) (by decide) (fun j hj => absurd hj (Nat.not_lt_zero _)) (fun j hj => absurd hj (Nat.not_lt_zero _)) (Nat.lt_succ_self _) _ _ (hP.sub [0, 1, 2, 3, 4, 5, 6, 7, 8] rfl) (hD.sub [0, 1, 2, 3, 4, 5, 6, 7, 8] (by decide) rfl) hS _ (lv_sub hl [4, 5, 6, 3, 2, 1, 0] rfl)
