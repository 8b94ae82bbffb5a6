/-! GroupHallsModel: countAlike: written by wip/whole -/
def rmMO_countAlike : Room := { frames := 0, cells := 0, slots := 0, locals := 0 }
set_option maxHeartbeats 4000000 in
set_option maxRecDepth 100000 in
theorem mMO_countAlike (l : Launch) (D : va_G) (cI cJ cZ : ClassId) (q : MoA) (cn gn ln : Int) (g : Nat) (ks : List Int) (ft mk fq : Nat → Int) (hG : isG ks) (hs : ks.Pairwise (· < ·)) (hln : ks.length ≤ 192) (hg : g < 40) (ht : tbOK ks ft) : zI l yMO_countAlike wMO_countAlike rmMO_countAlike D vwCl (zM cI cJ cZ) [.ref q.mo, .int (iI (g : Int)), .int (iI (ks.length : Int))] [(moC q cn gn ln), (q.xt, .inl (cI, 36864, .inl (zf ft))), (q.xr, .inl (cI, 200, .inl (zf mk))), (q.xq, .inl (cI, 7680, .inl (zf fq)))] (S := ((Nat → Int) × (Nat → Int))) (fun z u => z = (nAlk ks : Int) ∧ (∀ k, k < ks.length → u.2 (192 * g + k) = (mAlk ks k : Int)) ∧ ∀ t, (t < 192 * g ∨ 192 * g + 192 ≤ t) → u.2 t = fq t) (fun u => [(moC q cn gn ln), (q.xt, .inl (cI, 36864, .inl (zf ft))), (q.xr, .inl (cI, 200, .inl (zf u.1))), (q.xq, .inl (cI, 7680, .inl (zf u.2)))]) := by
  refine zI.of (cc := cMO_countAlike) (maxL := 8) (rt := .int) (by decide) rfl (Nat.le_of_ble_eq_true rfl) (fun _ _ _ => rfl) ?_
  intro p e s m args below meth c A ls Q hx hb hml hown hts hnm hK hD hA hAe hX hl hret H locs hP hS
  have hl : lv_has ls 8 [(0, .ref q.mo), (1, .int (iI (g : Int))), (2, .int (iI (ks.length : Int)))] := hl
  refine lv_iconst (v := iI (0)) hx hb dMO_countAlike_0 rfl ?_
  refine lv_istore_n (lv' := [(3, .int (iI 0)), (0, .ref q.mo), (1, .int (iI (g : Int))), (2, .int (iI (ks.length : Int)))]) hx hb dMO_countAlike_1 rfl hl (by decide) rfl (fun ls hl => ?_)
  have lp2 : ∀ (n9 : Nat) (i : Nat) (m0 : Nat → Int), (i ≤ ks.length) → (∀ t, t < i → m0 t = 0) → (ks.length - i) < n9 → ∀ (H : Heap) (locs : List Loc), va_P D vwCl [(moC q cn gn ln), (q.xt, .inl (cI, 36864, .inl (zf ft))), (q.xr, .inl (cI, 200, .inl (zf m0))), (q.xq, .inl (cI, 7680, .inl (zf fq)))] H → va_D A [(moC q cn gn ln), (q.xt, .inl (cI, 36864, .inl (zf ft))), (q.xr, .inl (cI, 200, .inl (zf m0))), (q.xq, .inl (cI, 7680, .inl (zf fq)))] → va_S A s.heap H locs → ∀ (ls : Array Slot), lv_has ls 8 [(0, .ref q.mo), (1, .int (iI (g : Int))), (2, .int (iI (ks.length : Int))), (3, .int (iI (i : Int)))] → W p l e (headSpec wMO_countAlike rmMO_countAlike).room s m args below meth c H locs 0 0 Q (F0 m 2 ls []) := by
    intro n9
    induction n9 with
    | zero => intro i m0 hi hz0 hm; exact absurd hm (Nat.not_lt_zero _)
    | succ n9 ih2 =>
      intro i m0 hi hz0 hm2 H locs hP hD hS ls hl
      refine lv_iload_n hx hb dMO_countAlike_2 rfl (lv_at hl 3 rfl) ?_
      refine lv_iload_n hx hb dMO_countAlike_3 rfl (lv_at hl 2 rfl) ?_
      refine lz_icmp_ge (tgt := 20) hx hb dMO_countAlike_4 (by decide) (by omega) (by omega) (fun c_4 => ?_) (fun c_4 => ?_)
      · have hz1 : ∀ b, b < ks.length → m0 b = 0 := fun b hb => hz0 b (by omega)
        refine lv_iconst (v := iI (0)) hx hb dMO_countAlike_20 rfl ?_
        refine lv_istore_n (lv' := [(3, .int (iI 0)), (0, .ref q.mo), (1, .int (iI (g : Int))), (2, .int (iI (ks.length : Int)))]) hx hb dMO_countAlike_21 rfl hl (by decide) rfl (fun ls hl => ?_)
        refine lv_iconst (v := iI (0)) hx hb dMO_countAlike_22 rfl ?_
        refine lv_istore (lv' := [(4, .int (iI 0)), (3, .int (iI 0)), (0, .ref q.mo), (1, .int (iI (g : Int))), (2, .int (iI (ks.length : Int)))]) hx hb dMO_countAlike_23 hl (by decide) rfl (fun ls hl => ?_)
        have lp25 : ∀ (n9 : Nat) (a : Nat) (m1 : Nat → Int) (st : Int), (a ≤ ks.length) → (mkI ks m1 st a) → (ks.length - a) < n9 → ∀ (H : Heap) (locs : List Loc), va_P D vwCl [(moC q cn gn ln), (q.xt, .inl (cI, 36864, .inl (zf ft))), (q.xr, .inl (cI, 200, .inl (zf m1))), (q.xq, .inl (cI, 7680, .inl (zf fq)))] H → va_D A [(moC q cn gn ln), (q.xt, .inl (cI, 36864, .inl (zf ft))), (q.xr, .inl (cI, 200, .inl (zf m1))), (q.xq, .inl (cI, 7680, .inl (zf fq)))] → va_S A s.heap H locs → ∀ (ls : Array Slot), lv_has ls 8 [(0, .ref q.mo), (1, .int (iI (g : Int))), (2, .int (iI (ks.length : Int))), (3, .int (iI st)), (4, .int (iI (a : Int)))] → W p l e (headSpec wMO_countAlike rmMO_countAlike).room s m args below meth c H locs 0 0 Q (F0 m 25 ls []) := by
          intro n9
          induction n9 with
          | zero => intro a m1 st ha hI hm; exact absurd hm (Nat.not_lt_zero _)
          | succ n9 ih25 =>
            intro a m1 st ha hI hm25 H locs hP hD hS ls hl
            have hst : 0 ≤ st ∧ st ≤ 192 := by have h9 := hI.2.2.2; have h8 := cnt_le (p := fun a => ∀ b, b < a → ¬ alk ks b a) a; omega
            refine lv_iload hx hb dMO_countAlike_25 (lv_at hl 4 rfl) ?_
            refine lv_iload_n hx hb dMO_countAlike_27 rfl (lv_at hl 2 rfl) ?_
            refine lz_icmp_ge (tgt := 126) hx hb dMO_countAlike_28 (by decide) (by omega) (by omega) (fun c_28 => ?_) (fun c_28 => ?_)
            · have haa : a = ks.length := by omega
              rw [haa] at hI
              have hI9 := hI
              refine lv_iconst (v := iI (0)) hx hb dMO_countAlike_126 rfl ?_
              refine lv_istore (lv' := [(4, .int (iI 0)), (0, .ref q.mo), (1, .int (iI (g : Int))), (2, .int (iI (ks.length : Int))), (3, .int (iI st))]) hx hb dMO_countAlike_127 hl (by decide) rfl (fun ls hl => ?_)
              have lp129 : ∀ (n9 : Nat) (a : Nat) (fq1 : Nat → Int), (a ≤ ks.length) → (∀ k, k < a → fq1 (192 * g + k) = (mAlk ks k : Int)) → (∀ t, (t < 192 * g ∨ 192 * g + 192 ≤ t) → fq1 t = fq t) → (ks.length - a) < n9 → ∀ (H : Heap) (locs : List Loc), va_P D vwCl [(moC q cn gn ln), (q.xt, .inl (cI, 36864, .inl (zf ft))), (q.xr, .inl (cI, 200, .inl (zf m1))), (q.xq, .inl (cI, 7680, .inl (zf fq1)))] H → va_D A [(moC q cn gn ln), (q.xt, .inl (cI, 36864, .inl (zf ft))), (q.xr, .inl (cI, 200, .inl (zf m1))), (q.xq, .inl (cI, 7680, .inl (zf fq1)))] → va_S A s.heap H locs → ∀ (ls : Array Slot), lv_has ls 8 [(0, .ref q.mo), (1, .int (iI (g : Int))), (2, .int (iI (ks.length : Int))), (3, .int (iI st)), (4, .int (iI (a : Int)))] → W p l e (headSpec wMO_countAlike rmMO_countAlike).room s m args below meth c H locs 0 0 Q (F0 m 129 ls []) := by
                intro n9
                induction n9 with
                | zero => intro a fq1 ha2 k1 k2 hm; exact absurd hm (Nat.not_lt_zero _)
                | succ n9 ih129 =>
                  intro a fq1 ha2 k1 k2 hm129 H locs hP hD hS ls hl
                  refine lv_iload hx hb dMO_countAlike_129 (lv_at hl 4 rfl) ?_
                  refine lv_iload_n hx hb dMO_countAlike_131 rfl (lv_at hl 2 rfl) ?_
                  refine lz_icmp_ge (tgt := 201) hx hb dMO_countAlike_132 (by decide) (by omega) (by omega) (fun c_132 => ?_) (fun c_132 => ?_)
                  · refine lv_iload_n hx hb dMO_countAlike_201 rfl (lv_at hl 3 rfl) ?_
                    exact hret H locs 0 0 202 ls st (m1, fq1) ⟨hI9.sets, fun k hk => k1 k (by omega), k2⟩ (hP.sub [0, 1, 2, 3] rfl) (hD.sub [0, 1, 2, 3] (by decide) rfl) hS (Nat.zero_le _) (Nat.zero_le _) dMO_countAlike_202
                  · refine lv_iconst (v := iI (0)) hx hb dMO_countAlike_135 rfl ?_
                    refine lv_istore (lv' := [(5, .int (iI 0)), (0, .ref q.mo), (1, .int (iI (g : Int))), (2, .int (iI (ks.length : Int))), (3, .int (iI st)), (4, .int (iI (a : Int)))]) hx hb dMO_countAlike_136 hl (by decide) rfl (fun ls hl => ?_)
                    refine lv_iconst (v := iI (0)) hx hb dMO_countAlike_138 rfl ?_
                    refine lv_istore (lv' := [(6, .int (iI 0)), (5, .int (iI 0)), (0, .ref q.mo), (1, .int (iI (g : Int))), (2, .int (iI (ks.length : Int))), (3, .int (iI st)), (4, .int (iI (a : Int)))]) hx hb dMO_countAlike_139 hl (by decide) rfl (fun ls hl => ?_)
                    have lp141 : ∀ (n9 : Nat) (j : Nat), (j ≤ ks.length) → (ks.length - j) < n9 → ∀ (H : Heap) (locs : List Loc), va_P D vwCl [(moC q cn gn ln), (q.xt, .inl (cI, 36864, .inl (zf ft))), (q.xr, .inl (cI, 200, .inl (zf m1))), (q.xq, .inl (cI, 7680, .inl (zf fq1)))] H → va_D A [(moC q cn gn ln), (q.xt, .inl (cI, 36864, .inl (zf ft))), (q.xr, .inl (cI, 200, .inl (zf m1))), (q.xq, .inl (cI, 7680, .inl (zf fq1)))] → va_S A s.heap H locs → ∀ (ls : Array Slot), lv_has ls 8 [(0, .ref q.mo), (1, .int (iI (g : Int))), (2, .int (iI (ks.length : Int))), (3, .int (iI st)), (4, .int (iI (a : Int))), (5, .int (iI (cnt (fun b => m1 a = m1 b) j : Int))), (6, .int (iI (j : Int)))] → W p l e (headSpec wMO_countAlike rmMO_countAlike).room s m args below meth c H locs 0 0 Q (F0 m 141 ls []) := by
                      intro n9
                      induction n9 with
                      | zero => intro j hj hm; exact absurd hm (Nat.not_lt_zero _)
                      | succ n9 ih141 =>
                        intro j hj hm141 H locs hP hD hS ls hl
                        refine lv_iload hx hb dMO_countAlike_141 (lv_at hl 6 rfl) ?_
                        refine lv_iload_n hx hb dMO_countAlike_143 rfl (lv_at hl 2 rfl) ?_
                        refine lz_icmp_ge (tgt := 180) hx hb dMO_countAlike_144 (by decide) (by omega) (by omega) (fun c_144 => ?_) (fun c_144 => ?_)
                        · refine lv_aload_n hx hb dMO_countAlike_180 rfl (lv_at hl 0 rfl) ?_
                          refine va_get (D := D) (ci := 7) (v := .ref q.xq) (C := nMO) (T := fMO) (N := 24) hx hb hts iwMO hown hK hP 0 rfl rfl 12 (by decide) (hts _ (List.mem_cons_of_mem _ lkMO_37)) (fun _ h9 => h9) rfl dMO_countAlike_181 ?_
                          refine lv_sipush (v := iI (192)) hx hb dMO_countAlike_184 (by decide) ?_
                          refine lv_iload_n hx hb dMO_countAlike_187 rfl (lv_at hl 1 rfl) ?_
                          refine lz_imul hx hb dMO_countAlike_188 ?_
                          refine lv_iload hx hb dMO_countAlike_189 (lv_at hl 4 rfl) ?_
                          refine lz_iadd hx hb dMO_countAlike_191 ?_
                          refine lv_iload hx hb dMO_countAlike_192 (lv_at hl 5 rfl) ?_
                          refine lz_iask hx hb hK hP hD hS 3 0 rfl rfl (z := (192 * (g : Int)) + (a : Int)) (v := (cnt (fun b => m1 a = m1 b) j : Int)) (192 * g + a) (by omega) (by omega) dMO_countAlike_194 (fun H locs hP hD hS => ?_)
                          have hP : va_P D vwCl [(moC q cn gn ln), (q.xt, .inl (cI, 36864, .inl (zf ft))), (q.xr, .inl (cI, 200, .inl (zf m1))), (q.xq, .inl (cI, 7680, .inl (zf (zu fq1 (192 * g + a) (cnt (fun b => m1 a = m1 b) j : Int)))))] H := hP
                          have hD : va_D A [(moC q cn gn ln), (q.xt, .inl (cI, 36864, .inl (zf ft))), (q.xr, .inl (cI, 200, .inl (zf m1))), (q.xq, .inl (cI, 7680, .inl (zf (zu fq1 (192 * g + a) (cnt (fun b => m1 a = m1 b) j : Int)))))] := hD
                          refine lz_iinc (lv' := [(4, .int (iI ((a : Int) + 1))), (0, .ref q.mo), (1, .int (iI (g : Int))), (2, .int (iI (ks.length : Int))), (3, .int (iI st)), (5, .int (iI (cnt (fun b => m1 a = m1 b) j : Int))), (6, .int (iI (j : Int)))]) hx hb dMO_countAlike_195 hl (k := 4) rfl (by decide) rfl (fun ls hl => ?_)
                          refine lv_goto (tgt := 129) hx hb dMO_countAlike_198 (by decide) ?_
                          exact ih129 (a + 1) (zu fq1 (192 * g + a) (cnt (fun b => m1 a = m1 b) j : Int)) (by omega) (fun k hk => by
                              by_cases e : k = a
                              · rw [e, zu_s, show j = ks.length by omega, hI9.many hG (by omega)]
                              · rw [zu_n _ _ (by omega)]; exact k1 k (by omega)) (fun t ht9 => by rw [zu_n _ _ (by omega)]; exact k2 t ht9) (by omega) _ _ (hP.sub [0, 1, 2, 3] rfl) (hD.sub [0, 1, 2, 3] (by decide) rfl) hS _ (lv_sub hl [1, 2, 3, 4, 0] rfl)
                        · refine lv_iload hx hb dMO_countAlike_147 (lv_at hl 5 rfl) ?_
                          refine lv_aload_n hx hb dMO_countAlike_149 rfl (lv_at hl 0 rfl) ?_
                          refine va_get (D := D) (ci := 7) (v := .ref q.xr) (C := nMO) (T := fMO) (N := 24) hx hb hts iwMO hown hK hP 0 rfl rfl 17 (by decide) (hts _ (List.mem_cons_of_mem _ lkMO_55)) (fun _ h9 => h9) rfl dMO_countAlike_150 ?_
                          refine lv_iload hx hb dMO_countAlike_153 (lv_at hl 4 rfl) ?_
                          refine lz_ialk hx hb hK hP 2 0 rfl rfl (z := (a : Int)) a rfl (by omega) dMO_countAlike_155 ?_
                          refine lv_aload_n hx hb dMO_countAlike_156 rfl (lv_at hl 0 rfl) ?_
                          refine va_get (D := D) (ci := 7) (v := .ref q.xr) (C := nMO) (T := fMO) (N := 24) hx hb hts iwMO hown hK hP 0 rfl rfl 17 (by decide) (hts _ (List.mem_cons_of_mem _ lkMO_55)) (fun _ h9 => h9) rfl dMO_countAlike_157 ?_
                          refine lv_iload hx hb dMO_countAlike_160 (lv_at hl 6 rfl) ?_
                          refine lz_ialk hx hb hK hP 2 0 rfl rfl (z := (j : Int)) j rfl (by omega) dMO_countAlike_162 ?_
                          refine lz_icmp_ne (tgt := 170) hx hb dMO_countAlike_163 (by decide) (by have := hI9.2.2.1 a (by omega); omega) (by have := hI9.2.2.1 j (by omega); omega) (fun c_163 => ?_) (fun c_163 => ?_)
                          · refine lv_iconst (v := iI (0)) hx hb dMO_countAlike_170 rfl ?_
                            refine lz_iadd hx hb dMO_countAlike_171 ?_
                            refine lv_istore (lv' := [(5, .int (iI ((cnt (fun b => m1 a = m1 b) j : Int) + 0))), (0, .ref q.mo), (1, .int (iI (g : Int))), (2, .int (iI (ks.length : Int))), (3, .int (iI st)), (4, .int (iI (a : Int))), (6, .int (iI (j : Int)))]) hx hb dMO_countAlike_172 hl (by decide) rfl (fun ls hl => ?_)
                            refine lz_iinc (lv' := [(6, .int (iI ((j : Int) + 1))), (5, .int (iI ((cnt (fun b => m1 a = m1 b) j : Int) + 0))), (0, .ref q.mo), (1, .int (iI (g : Int))), (2, .int (iI (ks.length : Int))), (3, .int (iI st)), (4, .int (iI (a : Int)))]) hx hb dMO_countAlike_174 hl (k := 6) rfl (by decide) rfl (fun ls hl => ?_)
                            refine lv_goto (tgt := 141) hx hb dMO_countAlike_177 (by decide) ?_
                            rw [show (cnt (fun b => m1 a = m1 b) j : Int) + 0 = (cnt (fun b => m1 a = m1 b) (j + 1) : Int) from by rw [cnt_f (p := fun b => m1 a = m1 b) c_163]; omega] at hl
                            exact ih141 (j + 1) (by omega) (by omega) _ _ (hP.sub [0, 1, 2, 3] rfl) (hD.sub [0, 1, 2, 3] (by decide) rfl) hS _ (lv_sub hl [2, 3, 4, 5, 6, 1, 0] rfl)
                          · refine lv_iconst (v := iI (1)) hx hb dMO_countAlike_166 rfl ?_
                            refine lv_goto (tgt := 171) hx hb dMO_countAlike_167 (by decide) ?_
                            refine lz_iadd hx hb dMO_countAlike_171 ?_
                            refine lv_istore (lv' := [(5, .int (iI ((cnt (fun b => m1 a = m1 b) j : Int) + 1))), (0, .ref q.mo), (1, .int (iI (g : Int))), (2, .int (iI (ks.length : Int))), (3, .int (iI st)), (4, .int (iI (a : Int))), (6, .int (iI (j : Int)))]) hx hb dMO_countAlike_172 hl (by decide) rfl (fun ls hl => ?_)
                            refine lz_iinc (lv' := [(6, .int (iI ((j : Int) + 1))), (5, .int (iI ((cnt (fun b => m1 a = m1 b) j : Int) + 1))), (0, .ref q.mo), (1, .int (iI (g : Int))), (2, .int (iI (ks.length : Int))), (3, .int (iI st)), (4, .int (iI (a : Int)))]) hx hb dMO_countAlike_174 hl (k := 6) rfl (by decide) rfl (fun ls hl => ?_)
                            refine lv_goto (tgt := 141) hx hb dMO_countAlike_177 (by decide) ?_
                            rw [show (cnt (fun b => m1 a = m1 b) j : Int) + 1 = (cnt (fun b => m1 a = m1 b) (j + 1) : Int) from by rw [cnt_t (p := fun b => m1 a = m1 b) c_163]; rfl] at hl
                            exact ih141 (j + 1) (by omega) (by omega) _ _ (hP.sub [0, 1, 2, 3] rfl) (hD.sub [0, 1, 2, 3] (by decide) rfl) hS _ (lv_sub hl [2, 3, 4, 5, 6, 1, 0] rfl)
                    exact lp141 _ 0 (Nat.zero_le _) (Nat.lt_succ_self _) _ _ (hP.sub [0, 1, 2, 3] rfl) (hD.sub [0, 1, 2, 3] (by decide) rfl) hS _ (lv_sub hl [2, 3, 4, 5, 6, 1, 0] rfl)
              exact lp129 _ 0 fq (Nat.zero_le _) (fun k hk => absurd hk (Nat.not_lt_zero _)) (fun t _ => rfl) (Nat.lt_succ_self _) _ _ (hP.sub [0, 1, 2, 3] rfl) (hD.sub [0, 1, 2, 3] (by decide) rfl) hS _ (lv_sub hl [1, 2, 3, 4, 0] rfl)
            · refine lv_aload_n hx hb dMO_countAlike_31 rfl (lv_at hl 0 rfl) ?_
              refine va_get (D := D) (ci := 7) (v := .ref q.xr) (C := nMO) (T := fMO) (N := 24) hx hb hts iwMO hown hK hP 0 rfl rfl 17 (by decide) (hts _ (List.mem_cons_of_mem _ lkMO_55)) (fun _ h9 => h9) rfl dMO_countAlike_32 ?_
              refine lv_iload hx hb dMO_countAlike_35 (lv_at hl 4 rfl) ?_
              refine lz_ialk hx hb hK hP 2 0 rfl rfl (z := (a : Int)) a rfl (by omega) dMO_countAlike_37 ?_
              refine lz_if_eq (tgt := 44) hx hb dMO_countAlike_38 (by decide) (by have := hI.2.2.1 a (by omega); omega) (fun c_38 => ?_) (fun c_38 => ?_)
              · refine lz_iinc (lv' := [(3, .int (iI (st + 1))), (0, .ref q.mo), (1, .int (iI (g : Int))), (2, .int (iI (ks.length : Int))), (4, .int (iI (a : Int)))]) hx hb dMO_countAlike_44 hl (k := 3) rfl (by decide) rfl (fun ls hl => ?_)
                refine lv_iconst (v := iI (0)) hx hb dMO_countAlike_47 rfl ?_
                refine lv_istore (lv' := [(5, .int (iI 0)), (3, .int (iI (st + 1))), (0, .ref q.mo), (1, .int (iI (g : Int))), (2, .int (iI (ks.length : Int))), (4, .int (iI (a : Int)))]) hx hb dMO_countAlike_48 hl (by decide) rfl (fun ls hl => ?_)
                have lp50 : ∀ (n9 : Nat) (c9 : Nat) (m2 : Nat → Int), (c9 ≤ ks.length) → (mkR ks m1 m2 (st + 1) a c9 0) → (ks.length - c9) < n9 → ∀ (H : Heap) (locs : List Loc), va_P D vwCl [(moC q cn gn ln), (q.xt, .inl (cI, 36864, .inl (zf ft))), (q.xr, .inl (cI, 200, .inl (zf m2))), (q.xq, .inl (cI, 7680, .inl (zf fq)))] H → va_D A [(moC q cn gn ln), (q.xt, .inl (cI, 36864, .inl (zf ft))), (q.xr, .inl (cI, 200, .inl (zf m2))), (q.xq, .inl (cI, 7680, .inl (zf fq)))] → va_S A s.heap H locs → ∀ (ls : Array Slot), lv_has ls 8 [(0, .ref q.mo), (1, .int (iI (g : Int))), (2, .int (iI (ks.length : Int))), (3, .int (iI (st + 1))), (4, .int (iI (a : Int))), (5, .int (iI (c9 : Int)))] → W p l e (headSpec wMO_countAlike rmMO_countAlike).room s m args below meth c H locs 0 0 Q (F0 m 50 ls []) := by
                  intro n9
                  induction n9 with
                  | zero => intro c9 m2 hc hR hm; exact absurd hm (Nat.not_lt_zero _)
                  | succ n9 ih50 =>
                    intro c9 m2 hc hR hm50 H locs hP hD hS ls hl
                    refine lv_iload hx hb dMO_countAlike_50 (lv_at hl 5 rfl) ?_
                    refine lv_iload_n hx hb dMO_countAlike_52 rfl (lv_at hl 2 rfl) ?_
                    refine lz_icmp_ge (tgt := 120) hx hb dMO_countAlike_53 (by decide) (by omega) (by omega) (fun c_53 => ?_) (fun c_53 => ?_)
                    · refine lz_iinc (lv' := [(4, .int (iI ((a : Int) + 1))), (0, .ref q.mo), (1, .int (iI (g : Int))), (2, .int (iI (ks.length : Int))), (3, .int (iI (st + 1))), (5, .int (iI (c9 : Int)))]) hx hb dMO_countAlike_120 hl (k := 4) rfl (by decide) rfl (fun ls hl => ?_)
                      refine lv_goto (tgt := 25) hx hb dMO_countAlike_123 (by decide) ?_
                      exact ih25 (a + 1) m2 (st + 1) (by omega) (mkR.next hG hI hR (by omega) (by omega) c_38) (by omega) _ _ (hP.sub [0, 1, 2, 3] rfl) (hD.sub [0, 1, 2, 3] (by decide) rfl) hS _ (lv_sub hl [1, 2, 3, 4, 0] rfl)
                    · refine lv_aload_n hx hb dMO_countAlike_56 rfl (lv_at hl 0 rfl) ?_
                      refine va_get (D := D) (ci := 7) (v := .ref q.xt) (C := nMO) (T := fMO) (N := 24) hx hb hts iwMO hown hK hP 0 rfl rfl 16 (by decide) (hts _ (List.mem_cons_of_mem _ lkMO_52)) (fun _ h9 => h9) rfl dMO_countAlike_57 ?_
                      refine lv_sipush (v := iI (192)) hx hb dMO_countAlike_60 (by decide) ?_
                      refine lv_iload hx hb dMO_countAlike_63 (lv_at hl 5 rfl) ?_
                      refine lz_imul hx hb dMO_countAlike_65 ?_
                      refine lv_iload hx hb dMO_countAlike_66 (lv_at hl 4 rfl) ?_
                      refine lz_iadd hx hb dMO_countAlike_68 ?_
                      refine lz_ialk hx hb hK hP 1 0 rfl rfl (z := (192 * (c9 : Int)) + (a : Int)) (192 * c9 + a) (by omega) (by omega) dMO_countAlike_69 ?_
                      refine lz_as (x := ft (192 * c9 + a)) (y := (tix ks c9 a : Int)) (ht _ _ (by omega) (by omega)) ?_
                      refine lv_istore (lv' := [(6, .int (iI (tix ks c9 a : Int))), (0, .ref q.mo), (1, .int (iI (g : Int))), (2, .int (iI (ks.length : Int))), (3, .int (iI (st + 1))), (4, .int (iI (a : Int))), (5, .int (iI (c9 : Int)))]) hx hb dMO_countAlike_70 hl (by decide) rfl (fun ls hl => ?_)
                      refine lv_iconst (v := iI (0)) hx hb dMO_countAlike_72 rfl ?_
                      refine lv_istore (lv' := [(7, .int (iI 0)), (6, .int (iI (tix ks c9 a : Int))), (0, .ref q.mo), (1, .int (iI (g : Int))), (2, .int (iI (ks.length : Int))), (3, .int (iI (st + 1))), (4, .int (iI (a : Int))), (5, .int (iI (c9 : Int)))]) hx hb dMO_countAlike_73 hl (by decide) rfl (fun ls hl => ?_)
                      have lp75 : ∀ (n9 : Nat) (b9 : Nat) (m3 : Nat → Int), (b9 ≤ ks.length) → (mkR ks m1 m3 (st + 1) a c9 b9) → (ks.length - b9) < n9 → ∀ (H : Heap) (locs : List Loc), va_P D vwCl [(moC q cn gn ln), (q.xt, .inl (cI, 36864, .inl (zf ft))), (q.xr, .inl (cI, 200, .inl (zf m3))), (q.xq, .inl (cI, 7680, .inl (zf fq)))] H → va_D A [(moC q cn gn ln), (q.xt, .inl (cI, 36864, .inl (zf ft))), (q.xr, .inl (cI, 200, .inl (zf m3))), (q.xq, .inl (cI, 7680, .inl (zf fq)))] → va_S A s.heap H locs → ∀ (ls : Array Slot), lv_has ls 8 [(0, .ref q.mo), (1, .int (iI (g : Int))), (2, .int (iI (ks.length : Int))), (3, .int (iI (st + 1))), (4, .int (iI (a : Int))), (5, .int (iI (c9 : Int))), (6, .int (iI (tix ks c9 a : Int))), (7, .int (iI (b9 : Int)))] → W p l e (headSpec wMO_countAlike rmMO_countAlike).room s m args below meth c H locs 0 0 Q (F0 m 75 ls []) := by
                        intro n9
                        induction n9 with
                        | zero => intro b9 m3 hb9 hR3 hm; exact absurd hm (Nat.not_lt_zero _)
                        | succ n9 ih75 =>
                          intro b9 m3 hb9 hR3 hm75 H locs hP hD hS ls hl
                          refine lv_iload hx hb dMO_countAlike_75 (lv_at hl 7 rfl) ?_
                          refine lv_iload_n hx hb dMO_countAlike_77 rfl (lv_at hl 2 rfl) ?_
                          refine lz_icmp_ge (tgt := 114) hx hb dMO_countAlike_78 (by decide) (by omega) (by omega) (fun c_78 => ?_) (fun c_78 => ?_)
                          · refine lz_iinc (lv' := [(5, .int (iI ((c9 : Int) + 1))), (0, .ref q.mo), (1, .int (iI (g : Int))), (2, .int (iI (ks.length : Int))), (3, .int (iI (st + 1))), (4, .int (iI (a : Int))), (6, .int (iI (tix ks c9 a : Int))), (7, .int (iI (b9 : Int)))]) hx hb dMO_countAlike_114 hl (k := 5) rfl (by decide) rfl (fun ls hl => ?_)
                            refine lv_goto (tgt := 50) hx hb dMO_countAlike_117 (by decide) ?_
                            exact ih50 (c9 + 1) m3 (by omega) (mkR.row (by rw [show b9 = ks.length by omega] at hR3; exact hR3) (by omega)) (by omega) _ _ (hP.sub [0, 1, 2, 3] rfl) (hD.sub [0, 1, 2, 3] (by decide) rfl) hS _ (lv_sub hl [1, 2, 3, 4, 5, 0] rfl)
                          · refine lv_aload_n hx hb dMO_countAlike_81 rfl (lv_at hl 0 rfl) ?_
                            refine va_get (D := D) (ci := 7) (v := .ref q.xt) (C := nMO) (T := fMO) (N := 24) hx hb hts iwMO hown hK hP 0 rfl rfl 16 (by decide) (hts _ (List.mem_cons_of_mem _ lkMO_52)) (fun _ h9 => h9) rfl dMO_countAlike_82 ?_
                            refine lv_sipush (v := iI (192)) hx hb dMO_countAlike_85 (by decide) ?_
                            refine lv_iload hx hb dMO_countAlike_88 (lv_at hl 7 rfl) ?_
                            refine lz_imul hx hb dMO_countAlike_90 ?_
                            refine lv_iload hx hb dMO_countAlike_91 (lv_at hl 5 rfl) ?_
                            refine lz_iadd hx hb dMO_countAlike_93 ?_
                            refine lz_ialk hx hb hK hP 1 0 rfl rfl (z := (192 * (b9 : Int)) + (c9 : Int)) (192 * b9 + c9) (by omega) (by omega) dMO_countAlike_94 ?_
                            refine lz_as (x := ft (192 * b9 + c9)) (y := (tix ks b9 c9 : Int)) (ht _ _ (by omega) (by omega)) ?_
                            refine lv_iload hx hb dMO_countAlike_95 (lv_at hl 6 rfl) ?_
                            refine lz_icmp_ne (tgt := 108) hx hb dMO_countAlike_97 (by decide) (by have := (tix_ok hG (i := b9) (j := c9) (by omega) (by omega)).1; omega) (by have := (tix_ok hG (i := c9) (j := a) (by omega) (by omega)).1; omega) (fun c_97 => ?_) (fun c_97 => ?_)
                            · refine lz_iinc (lv' := [(7, .int (iI ((b9 : Int) + 1))), (0, .ref q.mo), (1, .int (iI (g : Int))), (2, .int (iI (ks.length : Int))), (3, .int (iI (st + 1))), (4, .int (iI (a : Int))), (5, .int (iI (c9 : Int))), (6, .int (iI (tix ks c9 a : Int)))]) hx hb dMO_countAlike_108 hl (k := 7) rfl (by decide) rfl (fun ls hl => ?_)
                              refine lv_goto (tgt := 75) hx hb dMO_countAlike_111 (by decide) ?_
                              exact ih75 (b9 + 1) m3 (by omega) (hR3.no (by omega) (fun e9 => c_97 ((tix_eq hG hs (by omega) (by omega) (by omega) (by omega)).mpr e9))) (by omega) _ _ (hP.sub [0, 1, 2, 3] rfl) (hD.sub [0, 1, 2, 3] (by decide) rfl) hS _ (lv_sub hl [1, 2, 3, 4, 5, 6, 7, 0] rfl)
                            · refine lv_aload_n hx hb dMO_countAlike_100 rfl (lv_at hl 0 rfl) ?_
                              refine va_get (D := D) (ci := 7) (v := .ref q.xr) (C := nMO) (T := fMO) (N := 24) hx hb hts iwMO hown hK hP 0 rfl rfl 17 (by decide) (hts _ (List.mem_cons_of_mem _ lkMO_55)) (fun _ h9 => h9) rfl dMO_countAlike_101 ?_
                              refine lv_iload hx hb dMO_countAlike_104 (lv_at hl 7 rfl) ?_
                              refine lv_iload_n hx hb dMO_countAlike_106 rfl (lv_at hl 3 rfl) ?_
                              refine lz_iask hx hb hK hP hD hS 2 0 rfl rfl (z := (b9 : Int)) (v := st + 1) b9 rfl (by omega) dMO_countAlike_107 (fun H locs hP hD hS => ?_)
                              have hP : va_P D vwCl [(moC q cn gn ln), (q.xt, .inl (cI, 36864, .inl (zf ft))), (q.xr, .inl (cI, 200, .inl (zf (zu m3 b9 (st + 1))))), (q.xq, .inl (cI, 7680, .inl (zf fq)))] H := hP
                              have hD : va_D A [(moC q cn gn ln), (q.xt, .inl (cI, 36864, .inl (zf ft))), (q.xr, .inl (cI, 200, .inl (zf (zu m3 b9 (st + 1))))), (q.xq, .inl (cI, 7680, .inl (zf fq)))] := hD
                              refine lz_iinc (lv' := [(7, .int (iI ((b9 : Int) + 1))), (0, .ref q.mo), (1, .int (iI (g : Int))), (2, .int (iI (ks.length : Int))), (3, .int (iI (st + 1))), (4, .int (iI (a : Int))), (5, .int (iI (c9 : Int))), (6, .int (iI (tix ks c9 a : Int)))]) hx hb dMO_countAlike_108 hl (k := 7) rfl (by decide) rfl (fun ls hl => ?_)
                              refine lv_goto (tgt := 75) hx hb dMO_countAlike_111 (by decide) ?_
                              exact ih75 (b9 + 1) (zu m3 b9 (st + 1)) (by omega) (hR3.yes (by omega) (by omega) ((tix_eq hG hs (by omega) (by omega) (by omega) (by omega)).mp c_97)) (by omega) _ _ (hP.sub [0, 1, 2, 3] rfl) (hD.sub [0, 1, 2, 3] (by decide) rfl) hS _ (lv_sub hl [1, 2, 3, 4, 5, 6, 7, 0] rfl)
                      exact lp75 _ 0 m2 (Nat.zero_le _) hR (Nat.lt_succ_self _) _ _ (hP.sub [0, 1, 2, 3] rfl) (hD.sub [0, 1, 2, 3] (by decide) rfl) hS _ (lv_sub hl [2, 3, 4, 5, 6, 7, 1, 0] rfl)
                exact lp50 _ 0 m1 (Nat.zero_le _) (mkR.start m1 (st + 1) a) (Nat.lt_succ_self _) _ _ (hP.sub [0, 1, 2, 3] rfl) (hD.sub [0, 1, 2, 3] (by decide) rfl) hS _ (lv_sub hl [2, 3, 4, 1, 5, 0] rfl)
              · refine lv_goto (tgt := 120) hx hb dMO_countAlike_41 (by decide) ?_
                refine lz_iinc (lv' := [(4, .int (iI ((a : Int) + 1))), (0, .ref q.mo), (1, .int (iI (g : Int))), (2, .int (iI (ks.length : Int))), (3, .int (iI st))]) hx hb dMO_countAlike_120 hl (k := 4) rfl (by decide) rfl (fun ls hl => ?_)
                refine lv_goto (tgt := 25) hx hb dMO_countAlike_123 (by decide) ?_
                exact ih25 (a + 1) m1 st (by omega) (hI.skip hG (by omega) c_38) (by omega) _ _ (hP.sub [0, 1, 2, 3] rfl) (hD.sub [0, 1, 2, 3] (by decide) rfl) hS _ (lv_sub hl [1, 2, 3, 4, 0] rfl)
        exact lp25 _ 0 m0 0 (Nat.zero_le _) (mkI.start hz1) (Nat.lt_succ_self _) _ _ (hP.sub [0, 1, 2, 3] rfl) (hD.sub [0, 1, 2, 3] (by decide) rfl) hS _ (lv_sub hl [2, 3, 4, 1, 0] rfl)
      · refine lv_aload_n hx hb dMO_countAlike_7 rfl (lv_at hl 0 rfl) ?_
        refine va_get (D := D) (ci := 7) (v := .ref q.xr) (C := nMO) (T := fMO) (N := 24) hx hb hts iwMO hown hK hP 0 rfl rfl 17 (by decide) (hts _ (List.mem_cons_of_mem _ lkMO_55)) (fun _ h9 => h9) rfl dMO_countAlike_8 ?_
        refine lv_iload_n hx hb dMO_countAlike_11 rfl (lv_at hl 3 rfl) ?_
        refine lv_iconst (v := iI (0)) hx hb dMO_countAlike_12 rfl ?_
        refine lz_iask hx hb hK hP hD hS 2 0 rfl rfl (z := (i : Int)) (v := 0) i rfl (by omega) dMO_countAlike_13 (fun H locs hP hD hS => ?_)
        have hP : va_P D vwCl [(moC q cn gn ln), (q.xt, .inl (cI, 36864, .inl (zf ft))), (q.xr, .inl (cI, 200, .inl (zf (zu m0 i 0)))), (q.xq, .inl (cI, 7680, .inl (zf fq)))] H := hP
        have hD : va_D A [(moC q cn gn ln), (q.xt, .inl (cI, 36864, .inl (zf ft))), (q.xr, .inl (cI, 200, .inl (zf (zu m0 i 0)))), (q.xq, .inl (cI, 7680, .inl (zf fq)))] := hD
        refine lz_iinc (lv' := [(3, .int (iI ((i : Int) + 1))), (0, .ref q.mo), (1, .int (iI (g : Int))), (2, .int (iI (ks.length : Int)))]) hx hb dMO_countAlike_14 hl (k := 3) rfl (by decide) rfl (fun ls hl => ?_)
        refine lv_goto (tgt := 2) hx hb dMO_countAlike_17 (by decide) ?_
        exact ih2 (i + 1) (zu m0 i 0) (by omega) (fun t ht => by
            by_cases e : t = i
            · rw [e, zu_s]
            · rw [zu_n _ _ e]; exact hz0 t (by omega)) (by omega) _ _ (hP.sub [0, 1, 2, 3] rfl) (hD.sub [0, 1, 2, 3] (by decide) rfl) hS _ (lv_sub hl [1, 2, 3, 0] rfl)
  exact lp2 _ 0 mk (Nat.zero_le _) (fun t ht => absurd ht (Nat.not_lt_zero _)) (Nat.lt_succ_self _) _ _ (hP.sub [0, 1, 2, 3] rfl) (hD.sub [0, 1, 2, 3] (by decide) rfl) hS _ (lv_sub hl [1, 2, 3, 0] rfl)
