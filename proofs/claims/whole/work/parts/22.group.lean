/-! Group: written by wip/whole/gengrp.py -/
def rmGR_keys : Room := { frames := 0, cells := 0, slots := 0, locals := 0 }
set_option maxHeartbeats 4000000 in
set_option maxRecDepth 100000 in
theorem mGR_keys (l : Launch) (D : va_G) (cI cG : ClassId) (g k ka : Nat) (mt cn lt pcl : Int) (al hv : Option Nat)  : zRQ l yGR_keys wGR_keys rmGR_keys D vwCl (zT cI cG) [.ref g] [(g, .inr (3, [.ref k, .int (iI mt), .int (iI cn), .int (iI lt), .int (iI pcl), va_rf al, va_rf hv]))] (fun z => z = some k) := by
  refine zRQ.of (cc := cGR_keys) (maxL := 1) (rt := (.object "GroupHalls$Row")) (by decide) rfl (Nat.le_of_ble_eq_true rfl) (Or.inl ⟨_, rfl⟩) ?_
  intro p e s m args below meth c ls Q hx hb hml hown hts hK hP hX hl hret
  have hS0 : va_S (fun _ => False) s.heap s.heap [] := va_S.rf
  have hl : lv_has ls 1 [(0, .ref g)] := hl
  refine lv_aload_n hx hb dGR_keys_0 rfl (lv_at hl 0 rfl) ?_
  refine va_get (D := D) (ci := 3) (v := .ref k) (C := nGR) (T := fGR) (N := 7) hx hb hts iwGR hown hK hP 0 rfl rfl 0 (by decide) (hts _ (List.mem_cons_of_mem _ lkGR_28)) (fun _ h9 => h9) rfl dGR_keys_1 ?_
  exact hret 4 ls (some k) rfl dGR_keys_4

def rmGR_matrices : Room := { frames := 0, cells := 0, slots := 0, locals := 0 }
set_option maxHeartbeats 4000000 in
set_option maxRecDepth 100000 in
theorem mGR_matrices (l : Launch) (D : va_G) (cI cG : ClassId) (g k ka : Nat) (mt cn lt pcl : Int) (al hv : Option Nat)  : zRI l yGR_matrices wGR_matrices rmGR_matrices D vwCl (zT cI cG) [.ref g] [(g, .inr (3, [.ref k, .int (iI mt), .int (iI cn), .int (iI lt), .int (iI pcl), va_rf al, va_rf hv]))] (fun z => z = mt) := by
  refine zRI.of (cc := cGR_matrices) (maxL := 1) (rt := .int) (by decide) rfl (Nat.le_of_ble_eq_true rfl) (fun _ _ => rfl) ?_
  intro p e s m args below meth c ls Q hx hb hml hown hts hK hP hX hl hret
  have hS0 : va_S (fun _ => False) s.heap s.heap [] := va_S.rf
  have hl : lv_has ls 1 [(0, .ref g)] := hl
  refine lv_aload_n hx hb dGR_matrices_0 rfl (lv_at hl 0 rfl) ?_
  refine va_get (D := D) (ci := 3) (v := .int (iI mt)) (C := nGR) (T := fGR) (N := 7) hx hb hts iwGR hown hK hP 0 rfl rfl 1 (by decide) (hts _ (List.mem_cons_of_mem _ lkGR_40)) (fun _ h9 => h9) rfl dGR_matrices_1 ?_
  exact hret 4 ls mt rfl dGR_matrices_4

def rmGR_centrings : Room := { frames := 0, cells := 0, slots := 0, locals := 0 }
set_option maxHeartbeats 4000000 in
set_option maxRecDepth 100000 in
theorem mGR_centrings (l : Launch) (D : va_G) (cI cG : ClassId) (g k ka : Nat) (mt cn lt pcl : Int) (al hv : Option Nat)  : zRI l yGR_centrings wGR_centrings rmGR_centrings D vwCl (zT cI cG) [.ref g] [(g, .inr (3, [.ref k, .int (iI mt), .int (iI cn), .int (iI lt), .int (iI pcl), va_rf al, va_rf hv]))] (fun z => z = cn) := by
  refine zRI.of (cc := cGR_centrings) (maxL := 1) (rt := .int) (by decide) rfl (Nat.le_of_ble_eq_true rfl) (fun _ _ => rfl) ?_
  intro p e s m args below meth c ls Q hx hb hml hown hts hK hP hX hl hret
  have hS0 : va_S (fun _ => False) s.heap s.heap [] := va_S.rf
  have hl : lv_has ls 1 [(0, .ref g)] := hl
  refine lv_aload_n hx hb dGR_centrings_0 rfl (lv_at hl 0 rfl) ?_
  refine va_get (D := D) (ci := 3) (v := .int (iI cn)) (C := nGR) (T := fGR) (N := 7) hx hb hts iwGR hown hK hP 0 rfl rfl 2 (by decide) (hts _ (List.mem_cons_of_mem _ lkGR_44)) (fun _ h9 => h9) rfl dGR_centrings_1 ?_
  exact hret 4 ls cn rfl dGR_centrings_4

def rmGR_letter : Room := { frames := 0, cells := 0, slots := 0, locals := 0 }
set_option maxHeartbeats 4000000 in
set_option maxRecDepth 100000 in
theorem mGR_letter (l : Launch) (D : va_G) (cI cG : ClassId) (g k ka : Nat) (mt cn lt pcl : Int) (al hv : Option Nat)  : zRI l yGR_letter wGR_letter rmGR_letter D vwCl (zT cI cG) [.ref g] [(g, .inr (3, [.ref k, .int (iI mt), .int (iI cn), .int (iI lt), .int (iI pcl), va_rf al, va_rf hv]))] (fun z => z = lt) := by
  refine zRI.of (cc := cGR_letter) (maxL := 1) (rt := .int) (by decide) rfl (Nat.le_of_ble_eq_true rfl) (fun _ _ => rfl) ?_
  intro p e s m args below meth c ls Q hx hb hml hown hts hK hP hX hl hret
  have hS0 : va_S (fun _ => False) s.heap s.heap [] := va_S.rf
  have hl : lv_has ls 1 [(0, .ref g)] := hl
  refine lv_aload_n hx hb dGR_letter_0 rfl (lv_at hl 0 rfl) ?_
  refine va_get (D := D) (ci := 3) (v := .int (iI lt)) (C := nGR) (T := fGR) (N := 7) hx hb hts iwGR hown hK hP 0 rfl rfl 3 (by decide) (hts _ (List.mem_cons_of_mem _ lkGR_51)) (fun _ h9 => h9) rfl dGR_letter_1 ?_
  exact hret 4 ls lt rfl dGR_letter_4

def rmGR_pointClass : Room := { frames := 0, cells := 0, slots := 0, locals := 0 }
set_option maxHeartbeats 4000000 in
set_option maxRecDepth 100000 in
theorem mGR_pointClass (l : Launch) (D : va_G) (cI cG : ClassId) (g k ka : Nat) (mt cn lt pcl : Int) (al hv : Option Nat)  : zRI l yGR_pointClass wGR_pointClass rmGR_pointClass D vwCl (zT cI cG) [.ref g] [(g, .inr (3, [.ref k, .int (iI mt), .int (iI cn), .int (iI lt), .int (iI pcl), va_rf al, va_rf hv]))] (fun z => z = pcl) := by
  refine zRI.of (cc := cGR_pointClass) (maxL := 1) (rt := .int) (by decide) rfl (Nat.le_of_ble_eq_true rfl) (fun _ _ => rfl) ?_
  intro p e s m args below meth c ls Q hx hb hml hown hts hK hP hX hl hret
  have hS0 : va_S (fun _ => False) s.heap s.heap [] := va_S.rf
  have hl : lv_has ls 1 [(0, .ref g)] := hl
  refine lv_aload_n hx hb dGR_pointClass_0 rfl (lv_at hl 0 rfl) ?_
  refine va_get (D := D) (ci := 3) (v := .int (iI pcl)) (C := nGR) (T := fGR) (N := 7) hx hb hts iwGR hown hK hP 0 rfl rfl 4 (by decide) (hts _ (List.mem_cons_of_mem _ lkGR_58)) (fun _ h9 => h9) rfl dGR_pointClass_1 ?_
  exact hret 4 ls pcl rfl dGR_pointClass_4

def rmGR_init : Room := { frames := 4, cells := 2, slots := 194, locals := 92 }
set_option maxHeartbeats 4000000 in
set_option maxRecDepth 100000 in
theorem mGR_init (l : Launch) (D : va_G) (cI cG : ClassId) (g : Nat) (r a n : Nat) (f : Nat → Int) (ks : List Int) (b lf rt : Nat) (gl gr : Nat → Int) (h : rowOK n f ks) (hlen : ks.length ≤ 192) (hsum : 0 ≤ rowT ks ks.length ∧ rowT ks ks.length < 2147483648) : zV l yGR_init wGR_init rmGR_init D vwCl (zT cI cG) [.ref g, .ref r, .ref b] [(g, .inr (3, [.null, .int (iI 0), .int (iI 0), .int (iI 0), .int (iI 0), .null, .null])), (r, .inr (5, [.ref a, .int (iI (ks.length : Int))])), (a, .inl (cI, n, .inl (zf f))), (b, .inr (1, [.ref lf, .ref rt])), (lf, .inl (cI, 9, .inl (zf gl))), (rt, .inl (cI, 9, .inl (zf gr)))] (S := (Nat × Nat × (Nat → Int) × Int × Int × (Nat → Int))) (fun u => rowOK ks.length u.2.2.1 ks ∧ (∃ i, lix ks u0 i ∧ u.2.2.2.1 = letK ks i (cenT ks ks.length)) ∧ clsF (rowT ks ks.length) u.2.2.2.2.1) (fun u => [(g, .inr (3, [.ref u.1, .int (iI (matT ks ks.length)), .int (iI (cenT ks ks.length)), .int (iI u.2.2.2.1), .int (iI u.2.2.2.2.1), .null, .null])), (r, .inr (5, [.ref a, .int (iI (ks.length : Int))])), (a, .inl (cI, n, .inl (zf f))), (b, .inr (1, [.ref lf, .ref rt])), (lf, .inl (cI, 9, .inl (zf u.2.2.2.2.2))), (rt, .inl (cI, 9, .inl (zf gr))), (u.1, .inr (5, [.ref u.2.1, .int (iI (ks.length : Int))])), (u.2.1, .inl (cI, ks.length, .inl (zf u.2.2.1)))]) := by
  refine zV.of (cc := cGR_init) (maxL := 8) (by decide) rfl (Nat.le_of_ble_eq_true rfl) ?_
  intro p e s m args below meth c A ls Q hx hb hml hown hts hnm hK hD hA hAe hX hl hret H locs hP hS
  have hl : lv_has ls 8 [(0, .ref g), (1, .ref r), (2, .ref b)] := hl
  obtain ⟨tS, tC, hZS, hTS, hZC, hTC, hWn⟩ := id hX
  have hb1 := h.1
  have hb2 := h.2.1
  have hrg := @rowOK.rng n f ks h
  refine lv_aload_n hx hb dGR_init_0 rfl (lv_at hl 0 rfl) ?_
  refine W.objInit hx hb hown (hts _ (List.mem_cons_of_mem _ lkGR_3)) (hts _ (List.mem_cons_of_mem _ imJO_init)) (hts _ (List.mem_cons_of_mem _ kcJO_init)) rfl (by rw [hml]; exact hl.1) rfl dGR_init_1 (Nat.le_of_ble_eq_true rfl) (Nat.le_of_ble_eq_true rfl) ?_
  refine W.eq (g2 := F0 m 4 ls []) rfl ?_
  refine lv_aload_n hx hb dGR_init_4 rfl (lv_at hl 0 rfl) ?_
  refine lv_null hx hb dGR_init_5 ?_
  refine va_put (D := D) (ci := 3) (v := .null) (ty := .object "GroupHalls$AlikeSets") (C := nGR) (T := fGR) (N := 7) hx hb hts iwGR tGR tkGR nmGR hown hK hP hD hS 0 rfl rfl 5 (by decide) (hts _ (List.mem_cons_of_mem _ lkGR_9)) (fun _ h9 => h9) rfl (by decide +kernel) rfl rfl (Nat.le_of_ble_eq_true rfl) dGR_init_6 (fun H locs hP hD hS => ?_)
  have hP : va_P D vwCl [(g, .inr (3, [.null, .int (iI 0), .int (iI 0), .int (iI 0), .int (iI 0), .null, .null])), (r, .inr (5, [.ref a, .int (iI (ks.length : Int))])), (a, .inl (cI, n, .inl (zf f))), (b, .inr (1, [.ref lf, .ref rt])), (lf, .inl (cI, 9, .inl (zf gl))), (rt, .inl (cI, 9, .inl (zf gr)))] H := hP
  have hD : va_D A [(g, .inr (3, [.null, .int (iI 0), .int (iI 0), .int (iI 0), .int (iI 0), .null, .null])), (r, .inr (5, [.ref a, .int (iI (ks.length : Int))])), (a, .inl (cI, n, .inl (zf f))), (b, .inr (1, [.ref lf, .ref rt])), (lf, .inl (cI, 9, .inl (zf gl))), (rt, .inl (cI, 9, .inl (zf gr)))] := hD
  refine lv_aload_n hx hb dGR_init_9 rfl (lv_at hl 0 rfl) ?_
  refine lv_null hx hb dGR_init_10 ?_
  refine va_put (D := D) (ci := 3) (v := .null) (ty := .object "GroupHalls$Halves") (C := nGR) (T := fGR) (N := 7) hx hb hts iwGR tGR tkGR nmGR hown hK hP hD hS 0 rfl rfl 6 (by decide) (hts _ (List.mem_cons_of_mem _ lkGR_15)) (fun _ h9 => h9) rfl (by decide +kernel) rfl rfl (Nat.le_of_ble_eq_true rfl) dGR_init_11 (fun H locs hP hD hS => ?_)
  have hP : va_P D vwCl [(g, .inr (3, [.null, .int (iI 0), .int (iI 0), .int (iI 0), .int (iI 0), .null, .null])), (r, .inr (5, [.ref a, .int (iI (ks.length : Int))])), (a, .inl (cI, n, .inl (zf f))), (b, .inr (1, [.ref lf, .ref rt])), (lf, .inl (cI, 9, .inl (zf gl))), (rt, .inl (cI, 9, .inl (zf gr)))] H := hP
  have hD : va_D A [(g, .inr (3, [.null, .int (iI 0), .int (iI 0), .int (iI 0), .int (iI 0), .null, .null])), (r, .inr (5, [.ref a, .int (iI (ks.length : Int))])), (a, .inl (cI, n, .inl (zf f))), (b, .inr (1, [.ref lf, .ref rt])), (lf, .inl (cI, 9, .inl (zf gl))), (rt, .inl (cI, 9, .inl (zf gr)))] := hD
  refine lv_aload_n hx hb dGR_init_14 rfl (lv_at hl 0 rfl) ?_
  refine va_new (ci := 5) (fs := [.null, .int (iI 0)]) (C := nRO) (T := fRO) (N := 2) hx hb hts iwRO tRO tkRO hown (hts _ (List.mem_cons_of_mem _ lkGR_19)) (hts _ (List.mem_cons_of_mem _ insRO)) (hts _ (List.mem_cons_of_mem _ iniRO)) hK hP hD hS hA rfl (fun j hj => by rcases (show j = 0 ∨ j = 1 by omega) with rfl | rfl <;> rfl) (Nat.le_of_ble_eq_true rfl) (Nat.le_of_ble_eq_true rfl) dGR_init_15 (fun k H hP hD hS => ?_)
  have hP : va_P D vwCl [(g, .inr (3, [.null, .int (iI 0), .int (iI 0), .int (iI 0), .int (iI 0), .null, .null])), (r, .inr (5, [.ref a, .int (iI (ks.length : Int))])), (a, .inl (cI, n, .inl (zf f))), (b, .inr (1, [.ref lf, .ref rt])), (lf, .inl (cI, 9, .inl (zf gl))), (rt, .inl (cI, 9, .inl (zf gr))), (k, .inr (5, [.null, .int (iI 0)]))] H := hP
  have hD : va_D A [(g, .inr (3, [.null, .int (iI 0), .int (iI 0), .int (iI 0), .int (iI 0), .null, .null])), (r, .inr (5, [.ref a, .int (iI (ks.length : Int))])), (a, .inl (cI, n, .inl (zf f))), (b, .inr (1, [.ref lf, .ref rt])), (lf, .inl (cI, 9, .inl (zf gl))), (rt, .inl (cI, 9, .inl (zf gr))), (k, .inr (5, [.null, .int (iI 0)]))] := hD
  refine lv_dup hx hb dGR_init_18 rfl ?_
  refine lv_aload_n hx hb dGR_init_19 rfl (lv_at hl 1 rfl) ?_
  refine zRI.back ((va_runV (As := []) (rest := [.ref k, .ref k, .ref g]) ⟨hx, hb, hml, hown, hts⟩ (mRO_size l D cI cG r a (ks.length : Int)) (cwV 0 hts (gT1 lkGR_21 (gT1 imRO_size (gT1 seRO_size (gT1 iniRO (gTW kcRO_size))))) rfl rfl rfl (by decide +kernel) ⟨Nat.le_of_ble_eq_true rfl, Nat.le_of_ble_eq_true rfl⟩) ⟨zRd_blind, va_recv hK hP (ci := 5) (q0 := 1) rfl rfl, zRd.at (wc := [(r, .inr (5, [.ref a, .int (iI (ks.length : Int))]))]) hK (hP.sub (ws' := [(r, .inr (5, [.ref a, .int (iI (ks.length : Int))]))]) [1] rfl) (stF.now hX hS)⟩ rfl rfl hl.1 rfl (lv_room (Nat.le_of_ble_eq_true rfl)) dGR_init_20 ⟨Nat.le_of_ble_eq_true rfl, Nat.le_of_ble_eq_true rfl⟩).run) (fun z_20 q_20 => ?_)
  obtain rfl : z_20 = (ks.length : Int) := q_20
  refine zV.back (va_runI (As := [.int (iI (ks.length : Int))]) (rest := [.ref k, .ref g]) ⟨hx, hb, hml, hown, hts⟩ ((mRO_init l D cI cG k ks.length hlen) H.size) (cwI 1 hts (gTW kcRO_init) rfl rfl rfl (hts _ (List.mem_cons_of_mem _ iniRO)) (hts _ (List.mem_cons_of_mem _ lkGR_25)) (hts _ (List.mem_cons_of_mem _ imRO_init)) rfl (by decide +kernel) ⟨Nat.le_of_ble_eq_true rfl, Nat.le_of_ble_eq_true rfl⟩) ⟨zPre_blind, zPre.at (wc := [(k, .inr (5, [.null, .int (iI 0)]))]) hK hP hD hS hA hX [6] (by decide) rfl⟩ rfl rfl hl.1 rfl (lv_room (Nat.le_of_ble_eq_true rfl)) dGR_init_23 ⟨Nat.le_of_ble_eq_true rfl, Nat.le_of_ble_eq_true rfl⟩) (wr := [(g, .inr (3, [.null, .int (iI 0), .int (iI 0), .int (iI 0), .int (iI 0), .null, .null])), (r, .inr (5, [.ref a, .int (iI (ks.length : Int))])), (a, .inl (cI, n, .inl (zf f))), (b, .inr (1, [.ref lf, .ref rt])), (lf, .inl (cI, 9, .inl (zf gl))), (rt, .inl (cI, 9, .inl (zf gr)))]) hP hD hS hA [6] [0, 1, 2, 3, 4, 5] rfl rfl (by decide) (by decide) (fun u_23 H locs q_23 hP hD hS hz_23 hk_23 => ?_)
  have hP : va_P D vwCl [(g, .inr (3, [.null, .int (iI 0), .int (iI 0), .int (iI 0), .int (iI 0), .null, .null])), (r, .inr (5, [.ref a, .int (iI (ks.length : Int))])), (a, .inl (cI, n, .inl (zf f))), (b, .inr (1, [.ref lf, .ref rt])), (lf, .inl (cI, 9, .inl (zf gl))), (rt, .inl (cI, 9, .inl (zf gr))), (k, .inr (5, [.ref u_23, .int (iI 0)])), (u_23, .inl (cI, ks.length, .inl (zf (fun _ => 0))))] H := hP
  have hD : va_D A [(g, .inr (3, [.null, .int (iI 0), .int (iI 0), .int (iI 0), .int (iI 0), .null, .null])), (r, .inr (5, [.ref a, .int (iI (ks.length : Int))])), (a, .inl (cI, n, .inl (zf f))), (b, .inr (1, [.ref lf, .ref rt])), (lf, .inl (cI, 9, .inl (zf gl))), (rt, .inl (cI, 9, .inl (zf gr))), (k, .inr (5, [.ref u_23, .int (iI 0)])), (u_23, .inl (cI, ks.length, .inl (zf (fun _ => 0))))] := hD
  refine va_putF (D := D) (ci := 3) (v := .ref k) (ty := .object "GroupHalls$Row") (C := nGR) (T := fGR) (N := 7) hx hb hts iwGR tGR tkGR nmGR hown hK hP hD hS 0 rfl rfl 0 (by decide) (hts _ (List.mem_cons_of_mem _ lkGR_28)) (fun _ h9 => h9) rfl hnm rfl (by decide +kernel) rfl rfl (Nat.le_of_ble_eq_true rfl) dGR_init_26 (fun H locs hP hD hS => ?_)
  have hP : va_P D vwCl [(g, .inr (3, [.ref k, .int (iI 0), .int (iI 0), .int (iI 0), .int (iI 0), .null, .null])), (r, .inr (5, [.ref a, .int (iI (ks.length : Int))])), (a, .inl (cI, n, .inl (zf f))), (b, .inr (1, [.ref lf, .ref rt])), (lf, .inl (cI, 9, .inl (zf gl))), (rt, .inl (cI, 9, .inl (zf gr))), (k, .inr (5, [.ref u_23, .int (iI 0)])), (u_23, .inl (cI, ks.length, .inl (zf (fun _ => 0))))] H := hP
  have hD : va_D A [(g, .inr (3, [.ref k, .int (iI 0), .int (iI 0), .int (iI 0), .int (iI 0), .null, .null])), (r, .inr (5, [.ref a, .int (iI (ks.length : Int))])), (a, .inl (cI, n, .inl (zf f))), (b, .inr (1, [.ref lf, .ref rt])), (lf, .inl (cI, 9, .inl (zf gl))), (rt, .inl (cI, 9, .inl (zf gr))), (k, .inr (5, [.ref u_23, .int (iI 0)])), (u_23, .inl (cI, ks.length, .inl (zf (fun _ => 0))))] := hD
  refine lv_iconst (v := iI (0)) hx hb dGR_init_29 rfl ?_
  refine lv_istore_n (lv' := [(3, .int (iI 0)), (0, .ref g), (1, .ref r), (2, .ref b)]) hx hb dGR_init_30 rfl hl (by decide) rfl (fun ls hl => ?_)
  refine lv_iconst (v := iI (0)) hx hb dGR_init_31 rfl ?_
  refine lv_istore (lv' := [(4, .int (iI 0)), (3, .int (iI 0)), (0, .ref g), (1, .ref r), (2, .ref b)]) hx hb dGR_init_32 hl (by decide) rfl (fun ls hl => ?_)
  refine lv_iconst (v := iI (-1)) hx hb dGR_init_34 rfl ?_
  refine lv_istore (lv' := [(5, .int (iI (-1))), (4, .int (iI 0)), (3, .int (iI 0)), (0, .ref g), (1, .ref r), (2, .ref b)]) hx hb dGR_init_35 hl (by decide) rfl (fun ls hl => ?_)
  refine lv_iconst (v := iI (0)) hx hb dGR_init_37 rfl ?_
  refine lv_istore (lv' := [(6, .int (iI 0)), (5, .int (iI (-1))), (4, .int (iI 0)), (3, .int (iI 0)), (0, .ref g), (1, .ref r), (2, .ref b)]) hx hb dGR_init_38 hl (by decide) rfl (fun ls hl => ?_)
  have lp40 : ∀ (n9 : Nat) (i : Nat) (f1 : Nat → Int), (i ≤ ks.length) → (rowOK ks.length f1 (ks.take i)) → (ks.length - i) < n9 → ∀ (H : Heap) (locs : List Loc), va_P D vwCl [(g, .inr (3, [.ref k, .int (iI 0), .int (iI 0), .int (iI 0), .int (iI 0), .null, .null])), (r, .inr (5, [.ref a, .int (iI (ks.length : Int))])), (a, .inl (cI, n, .inl (zf f))), (b, .inr (1, [.ref lf, .ref rt])), (lf, .inl (cI, 9, .inl (zf gl))), (rt, .inl (cI, 9, .inl (zf gr))), (k, .inr (5, [.ref u_23, .int (iI ((ks.take i).length : Int))])), (u_23, .inl (cI, ks.length, .inl (zf f1)))] H → va_D A [(g, .inr (3, [.ref k, .int (iI 0), .int (iI 0), .int (iI 0), .int (iI 0), .null, .null])), (r, .inr (5, [.ref a, .int (iI (ks.length : Int))])), (a, .inl (cI, n, .inl (zf f))), (b, .inr (1, [.ref lf, .ref rt])), (lf, .inl (cI, 9, .inl (zf gl))), (rt, .inl (cI, 9, .inl (zf gr))), (k, .inr (5, [.ref u_23, .int (iI ((ks.take i).length : Int))])), (u_23, .inl (cI, ks.length, .inl (zf f1)))] → va_S A s.heap H locs → ∀ (ls : Array Slot), lv_has ls 8 [(0, .ref g), (1, .ref r), (2, .ref b), (3, .int (iI (matT ks i))), (4, .int (iI (cenT ks i))), (5, .int (iI (bef ks i))), (6, .int (iI (i : Int)))] → W p l e (headSpec wGR_init rmGR_init).room s m args below meth c H locs (0 + 1 + 1) (0 + 2 + 192) Q (F0 m 40 ls []) := by
    intro n9
    induction n9 with
    | zero => intro i f1 hi hI hm; exact absurd hm (Nat.not_lt_zero _)
    | succ n9 ih40 =>
      intro i f1 hi hI hm40 H locs hP hD hS ls hl
      have hbf := bef_bd h hi
      refine lv_iload hx hb dGR_init_40 (lv_at hl 6 rfl) ?_
      refine lv_aload_n hx hb dGR_init_42 rfl (lv_at hl 1 rfl) ?_
      refine zRI.back ((va_runV (As := []) (rest := [.int (iI (i : Int))]) ⟨hx, hb, hml, hown, hts⟩ (mRO_size l D cI cG r a (ks.length : Int)) (cwV 0 hts (gT1 lkGR_21 (gT1 imRO_size (gT1 seRO_size (gT1 iniRO (gTW kcRO_size))))) rfl rfl rfl (by decide +kernel) ⟨Nat.le_of_ble_eq_true rfl, Nat.le_of_ble_eq_true rfl⟩) ⟨zRd_blind, va_recv hK hP (ci := 5) (q0 := 1) rfl rfl, zRd.at (wc := [(r, .inr (5, [.ref a, .int (iI (ks.length : Int))]))]) hK (hP.sub (ws' := [(r, .inr (5, [.ref a, .int (iI (ks.length : Int))]))]) [1] rfl) (stF.now hX hS)⟩ rfl rfl hl.1 rfl (lv_room (Nat.le_of_ble_eq_true rfl)) dGR_init_43 ⟨Nat.le_of_ble_eq_true rfl, Nat.le_of_ble_eq_true rfl⟩).run) (fun z_43 q_43 => ?_)
      obtain rfl : z_43 = (ks.length : Int) := q_43
      refine lz_icmp_ge (tgt := 118) hx hb dGR_init_46 (by decide) (by omega) (by omega) (fun c_46 => ?_) (fun c_46 => ?_)
      · have hin : i = ks.length := by omega
        have htk : ks.take i = ks := by rw [hin]; exact List.take_length
        rw [htk] at hI hP hD
        have hl : lv_has ls 8 [(0, .ref g), (1, .ref r), (2, .ref b), (3, .int (iI (matT ks ks.length))), (4, .int (iI (cenT ks ks.length)))] := by rw [hin] at hl; exact lv_sub hl [0, 1, 2, 3, 4] rfl
        refine lv_aload_n hx hb dGR_init_118 rfl (lv_at hl 0 rfl) ?_
        refine lv_iload_n hx hb dGR_init_119 rfl (lv_at hl 3 rfl) ?_
        refine va_putF (D := D) (ci := 3) (v := .int (iI (matT ks ks.length))) (ty := .int) (C := nGR) (T := fGR) (N := 7) hx hb hts iwGR tGR tkGR nmGR hown hK hP hD hS 0 rfl rfl 1 (by decide) (hts _ (List.mem_cons_of_mem _ lkGR_40)) (fun _ h9 => h9) rfl hnm rfl (by decide +kernel) rfl rfl (Nat.le_of_ble_eq_true rfl) dGR_init_120 (fun H locs hP hD hS => ?_)
        have hP : va_P D vwCl [(g, .inr (3, [.ref k, .int (iI (matT ks ks.length)), .int (iI 0), .int (iI 0), .int (iI 0), .null, .null])), (r, .inr (5, [.ref a, .int (iI (ks.length : Int))])), (a, .inl (cI, n, .inl (zf f))), (b, .inr (1, [.ref lf, .ref rt])), (lf, .inl (cI, 9, .inl (zf gl))), (rt, .inl (cI, 9, .inl (zf gr))), (k, .inr (5, [.ref u_23, .int (iI (ks.length : Int))])), (u_23, .inl (cI, ks.length, .inl (zf f1)))] H := hP
        have hD : va_D A [(g, .inr (3, [.ref k, .int (iI (matT ks ks.length)), .int (iI 0), .int (iI 0), .int (iI 0), .null, .null])), (r, .inr (5, [.ref a, .int (iI (ks.length : Int))])), (a, .inl (cI, n, .inl (zf f))), (b, .inr (1, [.ref lf, .ref rt])), (lf, .inl (cI, 9, .inl (zf gl))), (rt, .inl (cI, 9, .inl (zf gr))), (k, .inr (5, [.ref u_23, .int (iI (ks.length : Int))])), (u_23, .inl (cI, ks.length, .inl (zf f1)))] := hD
        refine lv_aload_n hx hb dGR_init_123 rfl (lv_at hl 0 rfl) ?_
        refine lv_iload hx hb dGR_init_124 (lv_at hl 4 rfl) ?_
        refine va_putF (D := D) (ci := 3) (v := .int (iI (cenT ks ks.length))) (ty := .int) (C := nGR) (T := fGR) (N := 7) hx hb hts iwGR tGR tkGR nmGR hown hK hP hD hS 0 rfl rfl 2 (by decide) (hts _ (List.mem_cons_of_mem _ lkGR_44)) (fun _ h9 => h9) rfl hnm rfl (by decide +kernel) rfl rfl (Nat.le_of_ble_eq_true rfl) dGR_init_126 (fun H locs hP hD hS => ?_)
        have hP : va_P D vwCl [(g, .inr (3, [.ref k, .int (iI (matT ks ks.length)), .int (iI (cenT ks ks.length)), .int (iI 0), .int (iI 0), .null, .null])), (r, .inr (5, [.ref a, .int (iI (ks.length : Int))])), (a, .inl (cI, n, .inl (zf f))), (b, .inr (1, [.ref lf, .ref rt])), (lf, .inl (cI, 9, .inl (zf gl))), (rt, .inl (cI, 9, .inl (zf gr))), (k, .inr (5, [.ref u_23, .int (iI (ks.length : Int))])), (u_23, .inl (cI, ks.length, .inl (zf f1)))] H := hP
        have hD : va_D A [(g, .inr (3, [.ref k, .int (iI (matT ks ks.length)), .int (iI (cenT ks ks.length)), .int (iI 0), .int (iI 0), .null, .null])), (r, .inr (5, [.ref a, .int (iI (ks.length : Int))])), (a, .inl (cI, n, .inl (zf f))), (b, .inr (1, [.ref lf, .ref rt])), (lf, .inl (cI, 9, .inl (zf gl))), (rt, .inl (cI, 9, .inl (zf gr))), (k, .inr (5, [.ref u_23, .int (iI (ks.length : Int))])), (u_23, .inl (cI, ks.length, .inl (zf f1)))] := hD
        refine lv_aload_n hx hb dGR_init_129 rfl (lv_at hl 0 rfl) ?_
        refine lv_aload_n hx hb dGR_init_130 rfl (lv_at hl 0 rfl) ?_
        refine va_get (D := D) (ci := 3) (v := .ref k) (C := nGR) (T := fGR) (N := 7) hx hb hts iwGR hown hK hP 0 rfl rfl 0 (by decide) (hts _ (List.mem_cons_of_mem _ lkGR_28)) (fun _ h9 => h9) rfl dGR_init_131 ?_
        refine lv_iload hx hb dGR_init_134 (lv_at hl 4 rfl) ?_
        refine zRI.back ((va_runS (As := [.ref k, .int (iI (cenT ks ks.length))]) (rest := [.ref g]) ⟨hx, hb, hml, hown, hts⟩ (mGR_letterOf l D cI cG k u_23 ks.length f1 ks (cenT ks ks.length) hI (by have := cenT_rng ks ks.length; omega)) (va_cwS 2 hts (gT1 lkGR_47 (gT1 smGR_letterOf (gT1 iniGR (gTW kcGR_letterOf)))) rfl rfl rfl (by decide +kernel) ⟨Nat.le_of_ble_eq_true rfl, Nat.le_of_ble_eq_true rfl⟩) ⟨zRd_blind, zRd.at (wc := [(k, .inr (5, [.ref u_23, .int (iI (ks.length : Int))])), (u_23, .inl (cI, ks.length, .inl (zf f1)))]) hK (hP.sub (ws' := [(k, .inr (5, [.ref u_23, .int (iI (ks.length : Int))])), (u_23, .inl (cI, ks.length, .inl (zf f1)))]) [6, 7] rfl) (stF.now hX hS)⟩ rfl rfl hl.1 rfl (lv_room (Nat.le_of_ble_eq_true rfl)) dGR_init_136 ⟨Nat.le_of_ble_eq_true rfl, Nat.le_of_ble_eq_true rfl⟩).run) (fun z_136 q_136 => ?_)
        have q_136 : ∃ i, lix ks u0 i ∧ z_136 = letK ks i (cenT ks ks.length) := q_136
        refine va_putF (D := D) (ci := 3) (v := .int (iI z_136)) (ty := .int) (C := nGR) (T := fGR) (N := 7) hx hb hts iwGR tGR tkGR nmGR hown hK hP hD hS 0 rfl rfl 3 (by decide) (hts _ (List.mem_cons_of_mem _ lkGR_51)) (fun _ h9 => h9) rfl hnm rfl (by decide +kernel) rfl rfl (Nat.le_of_ble_eq_true rfl) dGR_init_139 (fun H locs hP hD hS => ?_)
        have hP : va_P D vwCl [(g, .inr (3, [.ref k, .int (iI (matT ks ks.length)), .int (iI (cenT ks ks.length)), .int (iI z_136), .int (iI 0), .null, .null])), (r, .inr (5, [.ref a, .int (iI (ks.length : Int))])), (a, .inl (cI, n, .inl (zf f))), (b, .inr (1, [.ref lf, .ref rt])), (lf, .inl (cI, 9, .inl (zf gl))), (rt, .inl (cI, 9, .inl (zf gr))), (k, .inr (5, [.ref u_23, .int (iI (ks.length : Int))])), (u_23, .inl (cI, ks.length, .inl (zf f1)))] H := hP
        have hD : va_D A [(g, .inr (3, [.ref k, .int (iI (matT ks ks.length)), .int (iI (cenT ks ks.length)), .int (iI z_136), .int (iI 0), .null, .null])), (r, .inr (5, [.ref a, .int (iI (ks.length : Int))])), (a, .inl (cI, n, .inl (zf f))), (b, .inr (1, [.ref lf, .ref rt])), (lf, .inl (cI, 9, .inl (zf gl))), (rt, .inl (cI, 9, .inl (zf gr))), (k, .inr (5, [.ref u_23, .int (iI (ks.length : Int))])), (u_23, .inl (cI, ks.length, .inl (zf f1)))] := hD
        refine lv_aload_n hx hb dGR_init_142 rfl (lv_at hl 0 rfl) ?_
        refine lv_aload_n hx hb dGR_init_143 rfl (lv_at hl 0 rfl) ?_
        refine va_get (D := D) (ci := 3) (v := .ref k) (C := nGR) (T := fGR) (N := 7) hx hb hts iwGR hown hK hP 0 rfl rfl 0 (by decide) (hts _ (List.mem_cons_of_mem _ lkGR_28)) (fun _ h9 => h9) rfl dGR_init_144 ?_
        refine lv_aload_n hx hb dGR_init_147 rfl (lv_at hl 2 rfl) ?_
        refine zI.back (va_runSN (As := [.ref k, .ref b]) (rest := [.ref g]) ⟨hx, hb, hml, hown, hts⟩ ((mGH_classOf l D cI cG k u_23 ks.length f1 ks b lf rt gl gr hI hsum) H.size) (⟨va_cnB 2 hts (gTW kcGH_classOf) rfl rfl rfl hWn.2.1 (hts _ (List.mem_cons_of_mem _ iniGH)) (by decide +kernel) ⟨Nat.le_of_ble_eq_true rfl, Nat.le_of_ble_eq_true rfl⟩, hts _ (List.mem_cons_of_mem _ smGH_classOf), trivial⟩) ⟨zPre_blind, zPre.at (wc := [(k, .inr (5, [.ref u_23, .int (iI (ks.length : Int))])), (u_23, .inl (cI, ks.length, .inl (zf f1))), (b, .inr (1, [.ref lf, .ref rt])), (lf, .inl (cI, 9, .inl (zf gl))), (rt, .inl (cI, 9, .inl (zf gr)))]) hK hP hD hS hA hX [6, 7, 3, 4, 5] (by decide) rfl⟩ rfl rfl hl.1 rfl (lv_room (Nat.le_of_ble_eq_true rfl)) dGR_init_148 ⟨Nat.le_of_ble_eq_true rfl, Nat.le_of_ble_eq_true rfl⟩) (wr := [(g, .inr (3, [.ref k, .int (iI (matT ks ks.length)), .int (iI (cenT ks ks.length)), .int (iI z_136), .int (iI 0), .null, .null])), (r, .inr (5, [.ref a, .int (iI (ks.length : Int))])), (a, .inl (cI, n, .inl (zf f)))]) hP hD hS hA [6, 7, 3, 4, 5] [0, 1, 2] rfl rfl (by decide) (by decide) (fun z_148 u_148 H locs q_148 hP hD hS hz_148 hk_148 => ?_)
        have q_148 : clsF (rowT ks ks.length) z_148 := q_148
        have hP : va_P D vwCl [(g, .inr (3, [.ref k, .int (iI (matT ks ks.length)), .int (iI (cenT ks ks.length)), .int (iI z_136), .int (iI 0), .null, .null])), (r, .inr (5, [.ref a, .int (iI (ks.length : Int))])), (a, .inl (cI, n, .inl (zf f))), (k, .inr (5, [.ref u_23, .int (iI (ks.length : Int))])), (u_23, .inl (cI, ks.length, .inl (zf f1))), (b, .inr (1, [.ref lf, .ref rt])), (lf, .inl (cI, 9, .inl (zf u_148))), (rt, .inl (cI, 9, .inl (zf gr)))] H := hP
        have hD : va_D A [(g, .inr (3, [.ref k, .int (iI (matT ks ks.length)), .int (iI (cenT ks ks.length)), .int (iI z_136), .int (iI 0), .null, .null])), (r, .inr (5, [.ref a, .int (iI (ks.length : Int))])), (a, .inl (cI, n, .inl (zf f))), (k, .inr (5, [.ref u_23, .int (iI (ks.length : Int))])), (u_23, .inl (cI, ks.length, .inl (zf f1))), (b, .inr (1, [.ref lf, .ref rt])), (lf, .inl (cI, 9, .inl (zf u_148))), (rt, .inl (cI, 9, .inl (zf gr)))] := hD
        refine va_putF (D := D) (ci := 3) (v := .int (iI z_148)) (ty := .int) (C := nGR) (T := fGR) (N := 7) hx hb hts iwGR tGR tkGR nmGR hown hK hP hD hS 0 rfl rfl 4 (by decide) (hts _ (List.mem_cons_of_mem _ lkGR_58)) (fun _ h9 => h9) rfl hnm rfl (by decide +kernel) rfl rfl (Nat.le_of_ble_eq_true rfl) dGR_init_151 (fun H locs hP hD hS => ?_)
        have hP : va_P D vwCl [(g, .inr (3, [.ref k, .int (iI (matT ks ks.length)), .int (iI (cenT ks ks.length)), .int (iI z_136), .int (iI z_148), .null, .null])), (r, .inr (5, [.ref a, .int (iI (ks.length : Int))])), (a, .inl (cI, n, .inl (zf f))), (k, .inr (5, [.ref u_23, .int (iI (ks.length : Int))])), (u_23, .inl (cI, ks.length, .inl (zf f1))), (b, .inr (1, [.ref lf, .ref rt])), (lf, .inl (cI, 9, .inl (zf u_148))), (rt, .inl (cI, 9, .inl (zf gr)))] H := hP
        have hD : va_D A [(g, .inr (3, [.ref k, .int (iI (matT ks ks.length)), .int (iI (cenT ks ks.length)), .int (iI z_136), .int (iI z_148), .null, .null])), (r, .inr (5, [.ref a, .int (iI (ks.length : Int))])), (a, .inl (cI, n, .inl (zf f))), (k, .inr (5, [.ref u_23, .int (iI (ks.length : Int))])), (u_23, .inl (cI, ks.length, .inl (zf f1))), (b, .inr (1, [.ref lf, .ref rt])), (lf, .inl (cI, 9, .inl (zf u_148))), (rt, .inl (cI, 9, .inl (zf gr)))] := hD
        exact hret H locs (0 + 1 + 1) (0 + 2 + 192) 154 ls (k, u_23, f1, z_136, z_148, u_148) ⟨hI, q_136, q_148⟩ (hP.sub [0, 1, 2, 5, 6, 7, 3, 4] rfl) (hD.sub [0, 1, 2, 5, 6, 7, 3, 4] (by decide) rfl) hS (by decide) (by decide) dGR_init_154
      · refine lv_aload_n hx hb dGR_init_49 rfl (lv_at hl 1 rfl) ?_
        refine lv_iload hx hb dGR_init_50 (lv_at hl 6 rfl) ?_
        refine zRI.back ((va_runV (As := [.int (iI (i : Int))]) (rest := []) ⟨hx, hb, hml, hown, hts⟩ (mRO_at l D cI cG r a n f ks (i : Int) h (by omega)) (cwV 1 hts (gT1 lkGR_32 (gT1 imRO_at (gT1 seRO_at (gT1 iniRO (gTW kcRO_at))))) rfl rfl rfl (by decide +kernel) ⟨Nat.le_of_ble_eq_true rfl, Nat.le_of_ble_eq_true rfl⟩) ⟨zRd_blind, va_recv hK hP (ci := 5) (q0 := 1) rfl rfl, zRd.at (wc := [(r, .inr (5, [.ref a, .int (iI (ks.length : Int))])), (a, .inl (cI, n, .inl (zf f)))]) hK (hP.sub (ws' := [(r, .inr (5, [.ref a, .int (iI (ks.length : Int))])), (a, .inl (cI, n, .inl (zf f)))]) [1, 2] rfl) (stF.now hX hS)⟩ rfl rfl hl.1 rfl (lv_room (Nat.le_of_ble_eq_true rfl)) dGR_init_52 ⟨Nat.le_of_ble_eq_true rfl, Nat.le_of_ble_eq_true rfl⟩).run) (fun z_52 q_52 => ?_)
        obtain rfl : z_52 = ks.getD i (-1) := by have q9 : z_52 = lat ks (i : Int) := q_52; rw [q9]; exact (lat_in (by omega) (by omega)).1
        refine lv_sipush (v := iI (13824)) hx hb dGR_init_55 (by decide) ?_
        refine lz_idiv hx hb dGR_init_58 (by have := hrg (j := i) (by omega); omega) (by omega) ?_
        refine lv_istore (lv' := [(7, .int (iI ((ks.getD i (-1)) / 13824))), (0, .ref g), (1, .ref r), (2, .ref b), (3, .int (iI (matT ks i))), (4, .int (iI (cenT ks i))), (5, .int (iI (bef ks i))), (6, .int (iI (i : Int)))]) hx hb dGR_init_59 hl (by decide) rfl (fun ls hl => ?_)
        refine lv_aload_n hx hb dGR_init_61 rfl (lv_at hl 1 rfl) ?_
        refine va_get (D := D) (ci := 3) (v := .ref k) (C := nGR) (T := fGR) (N := 7) hx hb hts iwGR hown hK hP 0 rfl rfl 0 (by decide) (hts _ (List.mem_cons_of_mem _ lkGR_28)) (fun _ h9 => h9) rfl dGR_init_62 ?_
        refine lv_aload_n hx hb dGR_init_65 rfl (lv_at hl 2 rfl) ?_
        refine lv_iload hx hb dGR_init_66 (lv_at hl 7 rfl) ?_
        refine zRI.back ((va_runV (As := [.int (iI (i : Int))]) (rest := [.ref k]) ⟨hx, hb, hml, hown, hts⟩ (mRO_at l D cI cG r a n f ks (i : Int) h (by omega)) (cwV 1 hts (gT1 lkGR_32 (gT1 imRO_at (gT1 seRO_at (gT1 iniRO (gTW kcRO_at))))) rfl rfl rfl (by decide +kernel) ⟨Nat.le_of_ble_eq_true rfl, Nat.le_of_ble_eq_true rfl⟩) ⟨zRd_blind, va_recv hK hP (ci := 5) (q0 := 1) rfl rfl, zRd.at (wc := [(r, .inr (5, [.ref a, .int (iI (ks.length : Int))])), (a, .inl (cI, n, .inl (zf f)))]) hK (hP.sub (ws' := [(r, .inr (5, [.ref a, .int (iI (ks.length : Int))])), (a, .inl (cI, n, .inl (zf f)))]) [1, 2] rfl) (stF.now hX hS)⟩ rfl rfl hl.1 rfl (lv_room (Nat.le_of_ble_eq_true rfl)) dGR_init_68 ⟨Nat.le_of_ble_eq_true rfl, Nat.le_of_ble_eq_true rfl⟩).run) (fun z_68 q_68 => ?_)
        obtain rfl : z_68 = ks.getD i (-1) := by have q9 : z_68 = lat ks (i : Int) := q_68; rw [q9]; exact (lat_in (by omega) (by omega)).1
        refine zI.back (va_runV (As := [.int (iI (ks.getD i (-1)))]) (rest := []) ⟨hx, hb, hml, hown, hts⟩ ((mRO_add l D cI cG k u_23 ks.length f1 (ks.take i) (ks.getD i (-1)) hI (by have := hrg (j := i) (by omega); omega)) H.size) (cwV 1 hts (gT1 lkGR_36 (gT1 imRO_add (gT1 seRO_add (gT1 iniRO (gTW kcRO_add))))) rfl rfl rfl (by decide +kernel) ⟨Nat.le_of_ble_eq_true rfl, Nat.le_of_ble_eq_true rfl⟩) ⟨zPre_blind, va_recv hK hP (ci := 5) (q0 := 6) rfl rfl, zPre.at (wc := [(k, .inr (5, [.ref u_23, .int (iI ((ks.take i).length : Int))])), (u_23, .inl (cI, ks.length, .inl (zf f1)))]) hK hP hD hS hA hX [6, 7] (by decide) rfl⟩ rfl rfl hl.1 rfl (lv_room (Nat.le_of_ble_eq_true rfl)) dGR_init_71 ⟨Nat.le_of_ble_eq_true rfl, Nat.le_of_ble_eq_true rfl⟩) (wr := [(g, .inr (3, [.ref k, .int (iI 0), .int (iI 0), .int (iI 0), .int (iI 0), .null, .null])), (r, .inr (5, [.ref a, .int (iI (ks.length : Int))])), (a, .inl (cI, n, .inl (zf f))), (b, .inr (1, [.ref lf, .ref rt])), (lf, .inl (cI, 9, .inl (zf gl))), (rt, .inl (cI, 9, .inl (zf gr)))]) hP hD hS hA [6, 7] [0, 1, 2, 3, 4, 5] rfl rfl (by decide) (by decide) (fun z_71 u_71 H locs q_71 hP hD hS hz_71 hk_71 => ?_)
        obtain ⟨ks2, ho2, hs2, hcs⟩ := q_71
        have hk2 : ks2 = ks.take (i + 1) := by
          rcases hcs with ⟨_, q, _⟩ | ⟨_, _, q, _⟩ | ⟨_, _, _, q⟩
          · exact absurd q (not_front h.2.2.2.1 (by omega))
          · rw [List.length_take] at q; omega
          · exact take_ins h.2.2.2.1 (by omega) ho2.2.2.2.1 q
        subst hk2
        rw [hs2] at hP hD
        clear hcs
        have hP : va_P D vwCl [(g, .inr (3, [.ref k, .int (iI 0), .int (iI 0), .int (iI 0), .int (iI 0), .null, .null])), (r, .inr (5, [.ref a, .int (iI (ks.length : Int))])), (a, .inl (cI, n, .inl (zf f))), (b, .inr (1, [.ref lf, .ref rt])), (lf, .inl (cI, 9, .inl (zf gl))), (rt, .inl (cI, 9, .inl (zf gr))), (k, .inr (5, [.ref u_23, .int (iI ((ks.take (i + 1)).length : Int))])), (u_23, .inl (cI, ks.length, .inl (zf u_71.2)))] H := hP
        have hD : va_D A [(g, .inr (3, [.ref k, .int (iI 0), .int (iI 0), .int (iI 0), .int (iI 0), .null, .null])), (r, .inr (5, [.ref a, .int (iI (ks.length : Int))])), (a, .inl (cI, n, .inl (zf f))), (b, .inr (1, [.ref lf, .ref rt])), (lf, .inl (cI, 9, .inl (zf gl))), (rt, .inl (cI, 9, .inl (zf gr))), (k, .inr (5, [.ref u_23, .int (iI ((ks.take (i + 1)).length : Int))])), (u_23, .inl (cI, ks.length, .inl (zf u_71.2)))] := hD
        refine lv_pop hx hb dGR_init_74 rfl ?_
        refine lv_iload_n hx hb dGR_init_75 rfl (lv_at hl 4 rfl) ?_
        refine lv_iload hx hb dGR_init_76 (lv_at hl 0 rfl) ?_
        refine lv_iload hx hb dGR_init_78 (lv_at hl 6 rfl) ?_
        refine lz_icmp_ne (tgt := 87) hx hb dGR_init_80 (by decide) (by have := hrg (j := i) (by omega); omega) (by omega) (fun c_80 => ?_) (fun c_80 => ?_)
        · refine lv_iconst (v := iI (1)) hx hb dGR_init_87 rfl ?_
          refine lz_iadd hx hb dGR_init_88 ?_
          refine lv_istore_n (lv' := [(3, .int (iI ((matT ks i) + 1))), (7, .int (iI ((ks.getD i (-1)) / 13824))), (0, .ref g), (1, .ref r), (2, .ref b), (4, .int (iI (cenT ks i))), (5, .int (iI (bef ks i))), (6, .int (iI (i : Int)))]) hx hb dGR_init_89 rfl hl (by decide) rfl (fun ls hl => ?_)
          refine lv_iload hx hb dGR_init_90 (lv_at hl 5 rfl) ?_
          refine lv_iload hx hb dGR_init_92 (lv_at hl 1 rfl) ?_
          refine lv_sipush (v := iI (16484)) hx hb dGR_init_94 (by decide) ?_
          refine lz_icmp_ne (tgt := 104) hx hb dGR_init_97 (by decide) (by have := hrg (j := i) (by omega); omega) (by omega) (fun c_97 => ?_) (fun c_97 => ?_)
          · refine lv_iconst (v := iI (0)) hx hb dGR_init_104 rfl ?_
            refine lz_iadd hx hb dGR_init_105 ?_
            refine lv_istore (lv' := [(4, .int (iI ((cenT ks i) + 0))), (3, .int (iI ((matT ks i) + 1))), (7, .int (iI ((ks.getD i (-1)) / 13824))), (0, .ref g), (1, .ref r), (2, .ref b), (5, .int (iI (bef ks i))), (6, .int (iI (i : Int)))]) hx hb dGR_init_106 hl (by decide) rfl (fun ls hl => ?_)
            refine lv_iload hx hb dGR_init_108 (lv_at hl 2 rfl) ?_
            refine lv_istore (lv' := [(5, .int (iI ((ks.getD i (-1)) / 13824))), (4, .int (iI ((cenT ks i) + 0))), (3, .int (iI ((matT ks i) + 1))), (7, .int (iI ((ks.getD i (-1)) / 13824))), (0, .ref g), (1, .ref r), (2, .ref b), (6, .int (iI (i : Int)))]) hx hb dGR_init_110 hl (by decide) rfl (fun ls hl => ?_)
            refine lz_iinc (lv' := [(6, .int (iI ((i : Int) + 1))), (5, .int (iI ((ks.getD i (-1)) / 13824))), (4, .int (iI ((cenT ks i) + 0))), (3, .int (iI ((matT ks i) + 1))), (7, .int (iI ((ks.getD i (-1)) / 13824))), (0, .ref g), (1, .ref r), (2, .ref b)]) hx hb dGR_init_112 hl (k := 7) rfl (by decide) rfl (fun ls hl => ?_)
            refine lv_goto (tgt := 40) hx hb dGR_init_115 (by decide) ?_
            rw [show (ks.getD i (-1)) / 13824 = bef ks (i + 1) from (bef_s ks i).symm] at hl
            rw [show (matT ks i) + 1 = matT ks (i + 1) from by show _ = matT ks i + _; rw [if_neg c_80]] at hl
            rw [show (cenT ks i) + 0 = cenT ks (i + 1) from by show _ = cenT ks i + _; rw [if_neg c_97]] at hl
            exact ih40 (i + 1) u_71.2 (by omega) ho2 (by omega) _ _ (hP.sub [0, 1, 2, 3, 4, 5, 6, 7] rfl) (hD.sub [0, 1, 2, 3, 4, 5, 6, 7] (by decide) rfl) hS _ (lv_sub hl [5, 6, 7, 3, 2, 1, 0] rfl)
          · refine lv_iconst (v := iI (1)) hx hb dGR_init_100 rfl ?_
            refine lv_goto (tgt := 105) hx hb dGR_init_101 (by decide) ?_
            refine lz_iadd hx hb dGR_init_105 ?_
            refine lv_istore (lv' := [(4, .int (iI ((cenT ks i) + 1))), (3, .int (iI ((matT ks i) + 1))), (7, .int (iI ((ks.getD i (-1)) / 13824))), (0, .ref g), (1, .ref r), (2, .ref b), (5, .int (iI (bef ks i))), (6, .int (iI (i : Int)))]) hx hb dGR_init_106 hl (by decide) rfl (fun ls hl => ?_)
            refine lv_iload hx hb dGR_init_108 (lv_at hl 2 rfl) ?_
            refine lv_istore (lv' := [(5, .int (iI ((ks.getD i (-1)) / 13824))), (4, .int (iI ((cenT ks i) + 1))), (3, .int (iI ((matT ks i) + 1))), (7, .int (iI ((ks.getD i (-1)) / 13824))), (0, .ref g), (1, .ref r), (2, .ref b), (6, .int (iI (i : Int)))]) hx hb dGR_init_110 hl (by decide) rfl (fun ls hl => ?_)
            refine lz_iinc (lv' := [(6, .int (iI ((i : Int) + 1))), (5, .int (iI ((ks.getD i (-1)) / 13824))), (4, .int (iI ((cenT ks i) + 1))), (3, .int (iI ((matT ks i) + 1))), (7, .int (iI ((ks.getD i (-1)) / 13824))), (0, .ref g), (1, .ref r), (2, .ref b)]) hx hb dGR_init_112 hl (k := 7) rfl (by decide) rfl (fun ls hl => ?_)
            refine lv_goto (tgt := 40) hx hb dGR_init_115 (by decide) ?_
            rw [show (ks.getD i (-1)) / 13824 = bef ks (i + 1) from (bef_s ks i).symm] at hl
            rw [show (matT ks i) + 1 = matT ks (i + 1) from by show _ = matT ks i + _; rw [if_neg c_80]] at hl
            rw [show (cenT ks i) + 1 = cenT ks (i + 1) from by show _ = cenT ks i + _; rw [if_pos c_97]] at hl
            exact ih40 (i + 1) u_71.2 (by omega) ho2 (by omega) _ _ (hP.sub [0, 1, 2, 3, 4, 5, 6, 7] rfl) (hD.sub [0, 1, 2, 3, 4, 5, 6, 7] (by decide) rfl) hS _ (lv_sub hl [5, 6, 7, 3, 2, 1, 0] rfl)
        · refine lv_iconst (v := iI (0)) hx hb dGR_init_83 rfl ?_
          refine lv_goto (tgt := 88) hx hb dGR_init_84 (by decide) ?_
          refine lz_iadd hx hb dGR_init_88 ?_
          refine lv_istore_n (lv' := [(3, .int (iI ((matT ks i) + 0))), (7, .int (iI ((ks.getD i (-1)) / 13824))), (0, .ref g), (1, .ref r), (2, .ref b), (4, .int (iI (cenT ks i))), (5, .int (iI (bef ks i))), (6, .int (iI (i : Int)))]) hx hb dGR_init_89 rfl hl (by decide) rfl (fun ls hl => ?_)
          refine lv_iload hx hb dGR_init_90 (lv_at hl 5 rfl) ?_
          refine lv_iload hx hb dGR_init_92 (lv_at hl 1 rfl) ?_
          refine lv_sipush (v := iI (16484)) hx hb dGR_init_94 (by decide) ?_
          refine lz_icmp_ne (tgt := 104) hx hb dGR_init_97 (by decide) (by have := hrg (j := i) (by omega); omega) (by omega) (fun c_97 => ?_) (fun c_97 => ?_)
          · refine lv_iconst (v := iI (0)) hx hb dGR_init_104 rfl ?_
            refine lz_iadd hx hb dGR_init_105 ?_
            refine lv_istore (lv' := [(4, .int (iI ((cenT ks i) + 0))), (3, .int (iI ((matT ks i) + 0))), (7, .int (iI ((ks.getD i (-1)) / 13824))), (0, .ref g), (1, .ref r), (2, .ref b), (5, .int (iI (bef ks i))), (6, .int (iI (i : Int)))]) hx hb dGR_init_106 hl (by decide) rfl (fun ls hl => ?_)
            refine lv_iload hx hb dGR_init_108 (lv_at hl 2 rfl) ?_
            refine lv_istore (lv' := [(5, .int (iI ((ks.getD i (-1)) / 13824))), (4, .int (iI ((cenT ks i) + 0))), (3, .int (iI ((matT ks i) + 0))), (7, .int (iI ((ks.getD i (-1)) / 13824))), (0, .ref g), (1, .ref r), (2, .ref b), (6, .int (iI (i : Int)))]) hx hb dGR_init_110 hl (by decide) rfl (fun ls hl => ?_)
            refine lz_iinc (lv' := [(6, .int (iI ((i : Int) + 1))), (5, .int (iI ((ks.getD i (-1)) / 13824))), (4, .int (iI ((cenT ks i) + 0))), (3, .int (iI ((matT ks i) + 0))), (7, .int (iI ((ks.getD i (-1)) / 13824))), (0, .ref g), (1, .ref r), (2, .ref b)]) hx hb dGR_init_112 hl (k := 7) rfl (by decide) rfl (fun ls hl => ?_)
            refine lv_goto (tgt := 40) hx hb dGR_init_115 (by decide) ?_
            rw [show (ks.getD i (-1)) / 13824 = bef ks (i + 1) from (bef_s ks i).symm] at hl
            rw [show (matT ks i) + 0 = matT ks (i + 1) from by show _ = matT ks i + _; rw [if_pos c_80]] at hl
            rw [show (cenT ks i) + 0 = cenT ks (i + 1) from by show _ = cenT ks i + _; rw [if_neg c_97]] at hl
            exact ih40 (i + 1) u_71.2 (by omega) ho2 (by omega) _ _ (hP.sub [0, 1, 2, 3, 4, 5, 6, 7] rfl) (hD.sub [0, 1, 2, 3, 4, 5, 6, 7] (by decide) rfl) hS _ (lv_sub hl [5, 6, 7, 3, 2, 1, 0] rfl)
          · refine lv_iconst (v := iI (1)) hx hb dGR_init_100 rfl ?_
            refine lv_goto (tgt := 105) hx hb dGR_init_101 (by decide) ?_
            refine lz_iadd hx hb dGR_init_105 ?_
            refine lv_istore (lv' := [(4, .int (iI ((cenT ks i) + 1))), (3, .int (iI ((matT ks i) + 0))), (7, .int (iI ((ks.getD i (-1)) / 13824))), (0, .ref g), (1, .ref r), (2, .ref b), (5, .int (iI (bef ks i))), (6, .int (iI (i : Int)))]) hx hb dGR_init_106 hl (by decide) rfl (fun ls hl => ?_)
            refine lv_iload hx hb dGR_init_108 (lv_at hl 2 rfl) ?_
            refine lv_istore (lv' := [(5, .int (iI ((ks.getD i (-1)) / 13824))), (4, .int (iI ((cenT ks i) + 1))), (3, .int (iI ((matT ks i) + 0))), (7, .int (iI ((ks.getD i (-1)) / 13824))), (0, .ref g), (1, .ref r), (2, .ref b), (6, .int (iI (i : Int)))]) hx hb dGR_init_110 hl (by decide) rfl (fun ls hl => ?_)
            refine lz_iinc (lv' := [(6, .int (iI ((i : Int) + 1))), (5, .int (iI ((ks.getD i (-1)) / 13824))), (4, .int (iI ((cenT ks i) + 1))), (3, .int (iI ((matT ks i) + 0))), (7, .int (iI ((ks.getD i (-1)) / 13824))), (0, .ref g), (1, .ref r), (2, .ref b)]) hx hb dGR_init_112 hl (k := 7) rfl (by decide) rfl (fun ls hl => ?_)
            refine lv_goto (tgt := 40) hx hb dGR_init_115 (by decide) ?_
            rw [show (ks.getD i (-1)) / 13824 = bef ks (i + 1) from (bef_s ks i).symm] at hl
            rw [show (matT ks i) + 0 = matT ks (i + 1) from by show _ = matT ks i + _; rw [if_pos c_80]] at hl
            rw [show (cenT ks i) + 1 = cenT ks (i + 1) from by show _ = cenT ks i + _; rw [if_pos c_97]] at hl
            exact ih40 (i + 1) u_71.2 (by omega) ho2 (by omega) _ _ (hP.sub [0, 1, 2, 3, 4, 5, 6, 7] rfl) (hD.sub [0, 1, 2, 3, 4, 5, 6, 7] (by decide) rfl) hS _ (lv_sub hl [5, 6, 7, 3, 2, 1, 0] rfl)
  exact lp40 _ 0 (fun _ => 0) (Nat.zero_le _) ⟨Nat.zero_le _, by omega, fun j hj => absurd hj (Nat.not_lt_zero _), List.Pairwise.nil, fun x hx => absurd hx List.not_mem_nil⟩ (Nat.lt_succ_self _) _ _ (hP.sub [0, 1, 2, 3, 4, 5, 6, 7] rfl) (hD.sub [0, 1, 2, 3, 4, 5, 6, 7] (by decide) rfl) hS _ (lv_sub hl [4, 5, 6, 3, 2, 1, 0] rfl)
