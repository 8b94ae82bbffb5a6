/-! GroupHallsModel: numbered, group: written by wip/whole -/
def rmMO_numbered : Room := { frames := 0, cells := 0, slots := 0, locals := 0 }
set_option maxHeartbeats 4000000 in
set_option maxRecDepth 100000 in
theorem mMO_numbered (l : Launch) (D : va_G) (cI cJ cZ : ClassId) (q : MoA) (cn gn ln : Int) (fl fm fz : Nat → Int) (ks : List Int) (kss : List (List Int)) (hln : ln = (ks.length : Int)) (hgn : gn = (kss.length : Int)) (hf : fset fl ks.length ks) (hk : gkM ks) (hM : MEM fm fz kss) : zI l yMO_numbered wMO_numbered rmMO_numbered D vwCl (zM cI cJ cZ) [.ref q.mo] [(moC q cn gn ln), (q.xl, .inl (cI, 200, .inl (zf fl))), (q.xm, .inl (cI, 7680, .inl (zf fm))), (q.xz, .inl (cI, 40, .inl (zf fz)))] (S := ((Nat → Int) × (Nat → Int) × (Nat → Int) × List (List Int))) (fun z u => numR kss ks z u.2.2.2 ∧ MEM u.2.1 u.2.2.1 u.2.2.2) (fun u => [(moC q cn (u.2.2.2.length : Int) ln), (q.xl, .inl (cI, 200, .inl (zf u.1))), (q.xm, .inl (cI, 7680, .inl (zf u.2.1))), (q.xz, .inl (cI, 40, .inl (zf u.2.2.1)))]) := by
  refine zI.of (cc := cMO_numbered) (maxL := 4) (rt := .int) (by decide) rfl (Nat.le_of_ble_eq_true rfl) (fun _ _ _ => rfl) ?_
  intro p e s m args below meth c A ls Q hx hb hml hown hts hnm hK hD hA hAe hX hl hret H locs hP hS
  have hl : lv_has ls 4 [(0, .ref q.mo)] := hl
  subst hln
  subst hgn
  have hkp := hk.pos
  have hkl := hk.2.2
  have hMl := hM.1
  refine lv_iconst (v := iI (1)) hx hb dMO_numbered_0 rfl ?_
  refine lv_istore_n (lv' := [(1, .int (iI 1)), (0, .ref q.mo)]) hx hb dMO_numbered_1 rfl hl (by decide) rfl (fun ls hl => ?_)
  rw [show 1 = ((1 : Nat) : Int) from rfl] at hl
  have lp2 : ∀ (n9 : Nat) (k : Nat) (f : Nat → Int), (1 ≤ k ∧ k ≤ ks.length) → (fset f ks.length ks) → (srt f k) → (ks.length - k) < n9 → ∀ (H : Heap) (locs : List Loc), va_P D vwCl [(moC q cn (kss.length : Int) (ks.length : Int)), (q.xl, .inl (cI, 200, .inl (zf f))), (q.xm, .inl (cI, 7680, .inl (zf fm))), (q.xz, .inl (cI, 40, .inl (zf fz)))] H → va_D A [(moC q cn (kss.length : Int) (ks.length : Int)), (q.xl, .inl (cI, 200, .inl (zf f))), (q.xm, .inl (cI, 7680, .inl (zf fm))), (q.xz, .inl (cI, 40, .inl (zf fz)))] → va_S A s.heap H locs → ∀ (ls : Array Slot), lv_has ls 4 [(0, .ref q.mo), (1, .int (iI (k : Int)))] → W p l e (headSpec wMO_numbered rmMO_numbered).room s m args below meth c H locs 0 0 Q (F0 m 2 ls []) := by
    intro n9
    induction n9 with
    | zero => intro k f hk1 h1 h2 hm; exact absurd hm (Nat.not_lt_zero _)
    | succ n9 ih2 =>
      intro k f hk1 h1 h2 hm2 H locs hP hD hS ls hl
      have hr9 : ∀ j, j < ks.length → 0 ≤ f j ∧ f j < 2147483648 := fun j hj => by
        have := (hk.1.2.2.1 _ ((h1.1 _).mp ⟨j, hj, rfl⟩)).1
        unfold kOK at this
        omega
      refine lv_iload_n hx hb dMO_numbered_2 rfl (lv_at hl 1 rfl) ?_
      refine lv_aload_n hx hb dMO_numbered_3 rfl (lv_at hl 0 rfl) ?_
      refine va_get (D := D) (ci := 7) (v := .int (iI (ks.length : Int))) (C := nMO) (T := fMO) (N := 24) hx hb hts iwMO hown hK hP 0 rfl rfl 10 (by decide) (hts _ (List.mem_cons_of_mem _ lkMO_95)) (fun _ h9 => h9) rfl dMO_numbered_4 ?_
      refine lz_icmp_ge (tgt := 68) hx hb dMO_numbered_7 (by decide) (by omega) (by omega) (fun c_7 => ?_) (fun c_7 => ?_)
      · have hkk : k = ks.length := by omega
        rw [hkk] at h2
        have hE0 := (emb_of hk.2.1 h1 h2).2
        have hE : ∀ j, j < ks.length → f j = ks.getD j (-1) := fun j hj => by have := hE0 j hj; rw [Nat.zero_add] at this; exact this
        refine lv_iconst (v := iI (0)) hx hb dMO_numbered_68 rfl ?_
        refine lv_istore_n (lv' := [(1, .int (iI 0)), (0, .ref q.mo)]) hx hb dMO_numbered_69 rfl hl (by decide) rfl (fun ls hl => ?_)
        have lp70 : ∀ (n9 : Nat) (g : Nat), (g ≤ kss.length) → (∀ j, j < g → kss[j]? ≠ some ks) → (kss.length - g) < n9 → ∀ (H : Heap) (locs : List Loc), va_P D vwCl [(moC q cn (kss.length : Int) (ks.length : Int)), (q.xl, .inl (cI, 200, .inl (zf f))), (q.xm, .inl (cI, 7680, .inl (zf fm))), (q.xz, .inl (cI, 40, .inl (zf fz)))] H → va_D A [(moC q cn (kss.length : Int) (ks.length : Int)), (q.xl, .inl (cI, 200, .inl (zf f))), (q.xm, .inl (cI, 7680, .inl (zf fm))), (q.xz, .inl (cI, 40, .inl (zf fz)))] → va_S A s.heap H locs → ∀ (ls : Array Slot), lv_has ls 4 [(0, .ref q.mo), (1, .int (iI (g : Int)))] → W p l e (headSpec wMO_numbered rmMO_numbered).room s m args below meth c H locs 0 0 Q (F0 m 70 ls []) := by
          intro n9
          induction n9 with
          | zero => intro g hg hno hm; exact absurd hm (Nat.not_lt_zero _)
          | succ n9 ih70 =>
            intro g hg hno hm70 H locs hP hD hS ls hl
            refine lv_iload_n hx hb dMO_numbered_70 rfl (lv_at hl 1 rfl) ?_
            refine lv_aload_n hx hb dMO_numbered_71 rfl (lv_at hl 0 rfl) ?_
            refine va_get (D := D) (ci := 7) (v := .int (iI (kss.length : Int))) (C := nMO) (T := fMO) (N := 24) hx hb hts iwMO hown hK hP 0 rfl rfl 8 (by decide) (hts _ (List.mem_cons_of_mem _ lkMO_88)) (fun _ h9 => h9) rfl dMO_numbered_72 ?_
            refine lz_icmp_ge (tgt := 156) hx hb dMO_numbered_75 (by decide) (by omega) (by omega) (fun c_75 => ?_) (fun c_75 => ?_)
            · have hno2 : ∀ j : Nat, kss[j]? ≠ some ks := fun j hj => hno j (by have := (List.getElem?_eq_some_iff.mp hj).1; omega) hj
              refine lv_aload_n hx hb dMO_numbered_156 rfl (lv_at hl 0 rfl) ?_
              refine va_get (D := D) (ci := 7) (v := .int (iI (kss.length : Int))) (C := nMO) (T := fMO) (N := 24) hx hb hts iwMO hown hK hP 0 rfl rfl 8 (by decide) (hts _ (List.mem_cons_of_mem _ lkMO_88)) (fun _ h9 => h9) rfl dMO_numbered_157 ?_
              refine lv_bipush (v := iI (40)) hx hb dMO_numbered_160 (by decide) ?_
              refine lz_icmp_ne (tgt := 167) hx hb dMO_numbered_162 (by decide) (by omega) (by omega) (fun c_162 => ?_) (fun c_162 => ?_)
              · refine lv_iconst (v := iI (0)) hx hb dMO_numbered_167 rfl ?_
                refine lv_istore_n (lv' := [(1, .int (iI 0)), (0, .ref q.mo)]) hx hb dMO_numbered_168 rfl hl (by decide) rfl (fun ls hl => ?_)
                have lp169 : ∀ (n9 : Nat) (k : Nat) (fm1 : Nat → Int), (k ≤ ks.length) → (∀ t, t < 192 * kss.length → fm1 t = fm t) → (∀ j, j < k → fm1 (192 * kss.length + j) = ks.getD j (-1)) → (ks.length - k) < n9 → ∀ (H : Heap) (locs : List Loc), va_P D vwCl [(moC q cn (kss.length : Int) (ks.length : Int)), (q.xl, .inl (cI, 200, .inl (zf f))), (q.xm, .inl (cI, 7680, .inl (zf fm1))), (q.xz, .inl (cI, 40, .inl (zf fz)))] H → va_D A [(moC q cn (kss.length : Int) (ks.length : Int)), (q.xl, .inl (cI, 200, .inl (zf f))), (q.xm, .inl (cI, 7680, .inl (zf fm1))), (q.xz, .inl (cI, 40, .inl (zf fz)))] → va_S A s.heap H locs → ∀ (ls : Array Slot), lv_has ls 4 [(0, .ref q.mo), (1, .int (iI (k : Int)))] → W p l e (headSpec wMO_numbered rmMO_numbered).room s m args below meth c H locs 0 0 Q (F0 m 169 ls []) := by
                  intro n9
                  induction n9 with
                  | zero => intro k fm1 hk2 g1 g2 hm; exact absurd hm (Nat.not_lt_zero _)
                  | succ n9 ih169 =>
                    intro k fm1 hk2 g1 g2 hm169 H locs hP hD hS ls hl
                    refine lv_iload_n hx hb dMO_numbered_169 rfl (lv_at hl 1 rfl) ?_
                    refine lv_aload_n hx hb dMO_numbered_170 rfl (lv_at hl 0 rfl) ?_
                    refine va_get (D := D) (ci := 7) (v := .int (iI (ks.length : Int))) (C := nMO) (T := fMO) (N := 24) hx hb hts iwMO hown hK hP 0 rfl rfl 10 (by decide) (hts _ (List.mem_cons_of_mem _ lkMO_95)) (fun _ h9 => h9) rfl dMO_numbered_171 ?_
                    refine lz_icmp_ge (tgt := 204) hx hb dMO_numbered_174 (by decide) (by omega) (by omega) (fun c_174 => ?_) (fun c_174 => ?_)
                    · refine lv_aload_n hx hb dMO_numbered_204 rfl (lv_at hl 0 rfl) ?_
                      refine va_get (D := D) (ci := 7) (v := .ref q.xz) (C := nMO) (T := fMO) (N := 24) hx hb hts iwMO hown hK hP 0 rfl rfl 7 (by decide) (hts _ (List.mem_cons_of_mem _ lkMO_28)) (fun _ h9 => h9) rfl dMO_numbered_205 ?_
                      refine lv_aload_n hx hb dMO_numbered_208 rfl (lv_at hl 0 rfl) ?_
                      refine va_get (D := D) (ci := 7) (v := .int (iI (kss.length : Int))) (C := nMO) (T := fMO) (N := 24) hx hb hts iwMO hown hK hP 0 rfl rfl 8 (by decide) (hts _ (List.mem_cons_of_mem _ lkMO_88)) (fun _ h9 => h9) rfl dMO_numbered_209 ?_
                      refine lv_aload_n hx hb dMO_numbered_212 rfl (lv_at hl 0 rfl) ?_
                      refine va_get (D := D) (ci := 7) (v := .int (iI (ks.length : Int))) (C := nMO) (T := fMO) (N := 24) hx hb hts iwMO hown hK hP 0 rfl rfl 10 (by decide) (hts _ (List.mem_cons_of_mem _ lkMO_95)) (fun _ h9 => h9) rfl dMO_numbered_213 ?_
                      refine lz_iask hx hb hK hP hD hS 3 0 rfl rfl (z := (kss.length : Int)) (v := (ks.length : Int)) kss.length rfl (by omega) dMO_numbered_216 (fun H locs hP hD hS => ?_)
                      have hP : va_P D vwCl [(moC q cn (kss.length : Int) (ks.length : Int)), (q.xl, .inl (cI, 200, .inl (zf f))), (q.xm, .inl (cI, 7680, .inl (zf fm1))), (q.xz, .inl (cI, 40, .inl (zf (zu fz kss.length (ks.length : Int)))))] H := hP
                      have hD : va_D A [(moC q cn (kss.length : Int) (ks.length : Int)), (q.xl, .inl (cI, 200, .inl (zf f))), (q.xm, .inl (cI, 7680, .inl (zf fm1))), (q.xz, .inl (cI, 40, .inl (zf (zu fz kss.length (ks.length : Int)))))] := hD
                      refine lv_aload_n hx hb dMO_numbered_217 rfl (lv_at hl 0 rfl) ?_
                      refine lv_dup hx hb dMO_numbered_218 rfl ?_
                      refine va_get (D := D) (ci := 7) (v := .int (iI (kss.length : Int))) (C := nMO) (T := fMO) (N := 24) hx hb hts iwMO hown hK hP 0 rfl rfl 8 (by decide) (hts _ (List.mem_cons_of_mem _ lkMO_88)) (fun _ h9 => h9) rfl dMO_numbered_219 ?_
                      refine lv_iconst (v := iI (1)) hx hb dMO_numbered_222 rfl ?_
                      refine lz_iadd hx hb dMO_numbered_223 ?_
                      refine va_put (D := D) (ci := 7) (v := .int (iI ((kss.length : Int) + 1))) (ty := .int) (C := nMO) (T := fMO) (N := 24) hx hb hts iwMO tMO tkMO nmMO hown hK hP hD hS 0 rfl rfl 8 (by decide) (hts _ (List.mem_cons_of_mem _ lkMO_88)) (fun _ h9 => h9) rfl (by decide +kernel) rfl rfl (Nat.le_of_ble_eq_true rfl) dMO_numbered_224 (fun H locs hP hD hS => ?_)
                      have hP : va_P D vwCl [(moC q cn ((kss.length : Int) + 1) (ks.length : Int)), (q.xl, .inl (cI, 200, .inl (zf f))), (q.xm, .inl (cI, 7680, .inl (zf fm1))), (q.xz, .inl (cI, 40, .inl (zf (zu fz kss.length (ks.length : Int)))))] H := hP
                      have hD : va_D A [(moC q cn ((kss.length : Int) + 1) (ks.length : Int)), (q.xl, .inl (cI, 200, .inl (zf f))), (q.xm, .inl (cI, 7680, .inl (zf fm1))), (q.xz, .inl (cI, 40, .inl (zf (zu fz kss.length (ks.length : Int)))))] := hD
                      refine lv_aload_n hx hb dMO_numbered_227 rfl (lv_at hl 0 rfl) ?_
                      refine va_get (D := D) (ci := 7) (v := .int (iI ((kss.length : Int) + 1))) (C := nMO) (T := fMO) (N := 24) hx hb hts iwMO hown hK hP 0 rfl rfl 8 (by decide) (hts _ (List.mem_cons_of_mem _ lkMO_88)) (fun _ h9 => h9) rfl dMO_numbered_228 ?_
                      refine lv_iconst (v := iI (1)) hx hb dMO_numbered_231 rfl ?_
                      refine lz_isub hx hb dMO_numbered_232 ?_
                      have hcI : (kss.length : Int) + 1 = ((kss ++ [ks]).length : Int) := by rw [List.length_append]; rfl
                      rw [hcI] at hP hD
                      have hP : va_P D vwCl [(moC q cn ((kss ++ [ks]).length : Int) (ks.length : Int)), (q.xl, .inl (cI, 200, .inl (zf f))), (q.xm, .inl (cI, 7680, .inl (zf fm1))), (q.xz, .inl (cI, 40, .inl (zf (zu fz kss.length (ks.length : Int)))))] H := hP
                      have hD : va_D A [(moC q cn ((kss ++ [ks]).length : Int) (ks.length : Int)), (q.xl, .inl (cI, 200, .inl (zf f))), (q.xm, .inl (cI, 7680, .inl (zf fm1))), (q.xz, .inl (cI, 40, .inl (zf (zu fz kss.length (ks.length : Int)))))] := hD
                      exact hret H locs 0 0 233 ls ((kss.length : Int) + 1 - 1) (f, fm1, zu fz kss.length (ks.length : Int), kss ++ [ks]) ⟨Or.inr (Or.inr ⟨hno2, by omega, by omega, rfl⟩), hM.push (by omega) hk g1 (fun j hj => g2 j (by omega))⟩ (hP.sub [0, 1, 2, 3] rfl) (hD.sub [0, 1, 2, 3] (by decide) rfl) hS (Nat.zero_le _) (Nat.zero_le _) dMO_numbered_233
                    · refine lv_aload_n hx hb dMO_numbered_177 rfl (lv_at hl 0 rfl) ?_
                      refine va_get (D := D) (ci := 7) (v := .ref q.xm) (C := nMO) (T := fMO) (N := 24) hx hb hts iwMO hown hK hP 0 rfl rfl 6 (by decide) (hts _ (List.mem_cons_of_mem _ lkMO_25)) (fun _ h9 => h9) rfl dMO_numbered_178 ?_
                      refine lv_sipush (v := iI (192)) hx hb dMO_numbered_181 (by decide) ?_
                      refine lv_aload_n hx hb dMO_numbered_184 rfl (lv_at hl 0 rfl) ?_
                      refine va_get (D := D) (ci := 7) (v := .int (iI (kss.length : Int))) (C := nMO) (T := fMO) (N := 24) hx hb hts iwMO hown hK hP 0 rfl rfl 8 (by decide) (hts _ (List.mem_cons_of_mem _ lkMO_88)) (fun _ h9 => h9) rfl dMO_numbered_185 ?_
                      refine lz_imul hx hb dMO_numbered_188 ?_
                      refine lv_iload_n hx hb dMO_numbered_189 rfl (lv_at hl 1 rfl) ?_
                      refine lz_iadd hx hb dMO_numbered_190 ?_
                      refine lv_aload_n hx hb dMO_numbered_191 rfl (lv_at hl 0 rfl) ?_
                      refine va_get (D := D) (ci := 7) (v := .ref q.xl) (C := nMO) (T := fMO) (N := 24) hx hb hts iwMO hown hK hP 0 rfl rfl 9 (by decide) (hts _ (List.mem_cons_of_mem _ lkMO_31)) (fun _ h9 => h9) rfl dMO_numbered_192 ?_
                      refine lv_iload_n hx hb dMO_numbered_195 rfl (lv_at hl 1 rfl) ?_
                      refine lz_ialk hx hb hK hP 1 0 rfl rfl (z := (k : Int)) k rfl (by omega) dMO_numbered_196 ?_
                      refine lz_as (x := f k) (y := ks.getD k (-1)) (hE k (by omega)) ?_
                      refine lz_iask hx hb hK hP hD hS 2 0 rfl rfl (z := (192 * (kss.length : Int)) + (k : Int)) (v := ks.getD k (-1)) (192 * kss.length + k) (by omega) (by omega) dMO_numbered_197 (fun H locs hP hD hS => ?_)
                      have hP : va_P D vwCl [(moC q cn (kss.length : Int) (ks.length : Int)), (q.xl, .inl (cI, 200, .inl (zf f))), (q.xm, .inl (cI, 7680, .inl (zf (zu fm1 (192 * kss.length + k) (ks.getD k (-1)))))), (q.xz, .inl (cI, 40, .inl (zf fz)))] H := hP
                      have hD : va_D A [(moC q cn (kss.length : Int) (ks.length : Int)), (q.xl, .inl (cI, 200, .inl (zf f))), (q.xm, .inl (cI, 7680, .inl (zf (zu fm1 (192 * kss.length + k) (ks.getD k (-1)))))), (q.xz, .inl (cI, 40, .inl (zf fz)))] := hD
                      refine lz_iinc (lv' := [(1, .int (iI ((k : Int) + 1))), (0, .ref q.mo)]) hx hb dMO_numbered_198 hl (k := 1) rfl (by decide) rfl (fun ls hl => ?_)
                      refine lv_goto (tgt := 169) hx hb dMO_numbered_201 (by decide) ?_
                      exact ih169 (k + 1) (zu fm1 (192 * kss.length + k) (ks.getD k (-1))) (by omega) (fun t ht => by rw [zu_n _ _ (by omega)]; exact g1 t ht) (fun j hj => by
                          by_cases e : j = k
                          · rw [e, zu_s]
                          · rw [zu_n _ _ (by omega)]; exact g2 j (by omega)) (by omega) _ _ (hP.sub [0, 1, 2, 3] rfl) (hD.sub [0, 1, 2, 3] (by decide) rfl) hS _ (lv_sub hl [1, 0] rfl)
                exact lp169 _ 0 fm (Nat.zero_le _) (fun t ht => rfl) (fun j hj => absurd hj (Nat.not_lt_zero _)) (Nat.lt_succ_self _) _ _ (hP.sub [0, 1, 2, 3] rfl) (hD.sub [0, 1, 2, 3] (by decide) rfl) hS _ (lv_sub hl [1, 0] rfl)
              · refine lv_iconst (v := iI (-1)) hx hb dMO_numbered_165 rfl ?_
                exact hret H locs 0 0 166 ls (-1) (f, fm, fz, kss) ⟨Or.inr (Or.inl ⟨hno2, by omega, rfl, rfl⟩), hM⟩ (hP.sub [0, 1, 2, 3] rfl) (hD.sub [0, 1, 2, 3] (by decide) rfl) hS (Nat.zero_le _) (Nat.zero_le _) dMO_numbered_166
            · obtain ⟨ks9, hk9⟩ : ∃ ks9, kss[g]? = some ks9 := ⟨kss[g], List.getElem?_eq_getElem (by omega)⟩
              obtain ⟨he9, hz9, hg9⟩ := hM.2 g ks9 hk9
              have hl9 := hg9.2.2
              refine lv_aload_n hx hb dMO_numbered_78 rfl (lv_at hl 0 rfl) ?_
              refine va_get (D := D) (ci := 7) (v := .ref q.xz) (C := nMO) (T := fMO) (N := 24) hx hb hts iwMO hown hK hP 0 rfl rfl 7 (by decide) (hts _ (List.mem_cons_of_mem _ lkMO_28)) (fun _ h9 => h9) rfl dMO_numbered_79 ?_
              refine lv_iload_n hx hb dMO_numbered_82 rfl (lv_at hl 1 rfl) ?_
              refine lz_ialk hx hb hK hP 3 0 rfl rfl (z := (g : Int)) g rfl (by omega) dMO_numbered_83 ?_
              refine lz_as (x := fz g) (y := (ks9.length : Int)) (hz9) ?_
              refine lv_aload_n hx hb dMO_numbered_84 rfl (lv_at hl 0 rfl) ?_
              refine va_get (D := D) (ci := 7) (v := .int (iI (ks.length : Int))) (C := nMO) (T := fMO) (N := 24) hx hb hts iwMO hown hK hP 0 rfl rfl 10 (by decide) (hts _ (List.mem_cons_of_mem _ lkMO_95)) (fun _ h9 => h9) rfl dMO_numbered_85 ?_
              refine lz_icmp_ne (tgt := 95) hx hb dMO_numbered_88 (by decide) (by have := hg9.2.2; omega) (by omega) (fun c_88 => ?_) (fun c_88 => ?_)
              · refine lv_iconst (v := iI (0)) hx hb dMO_numbered_95 rfl ?_
                refine lv_istore_n (lv' := [(2, .int (iI 0)), (0, .ref q.mo), (1, .int (iI (g : Int)))]) hx hb dMO_numbered_96 rfl hl (by decide) rfl (fun ls hl => ?_)
                refine lv_iconst (v := iI (0)) hx hb dMO_numbered_97 rfl ?_
                refine lv_istore_n (lv' := [(3, .int (iI 0)), (2, .int (iI 0)), (0, .ref q.mo), (1, .int (iI (g : Int)))]) hx hb dMO_numbered_98 rfl hl (by decide) rfl (fun ls hl => ?_)
                have lp99 : ∀ (n9 : Nat) (k : Nat) (st : Int), (k ≤ ks.length) → ((st = 1 ∧ ks9.length = ks.length ∧ ∀ j, j < k → ks9.getD j (-1) = ks.getD j (-1)) ∨ (st = 0 ∧ ks9 ≠ ks)) → (ks.length - k) < n9 → ∀ (H : Heap) (locs : List Loc), va_P D vwCl [(moC q cn (kss.length : Int) (ks.length : Int)), (q.xl, .inl (cI, 200, .inl (zf f))), (q.xm, .inl (cI, 7680, .inl (zf fm))), (q.xz, .inl (cI, 40, .inl (zf fz)))] H → va_D A [(moC q cn (kss.length : Int) (ks.length : Int)), (q.xl, .inl (cI, 200, .inl (zf f))), (q.xm, .inl (cI, 7680, .inl (zf fm))), (q.xz, .inl (cI, 40, .inl (zf fz)))] → va_S A s.heap H locs → ∀ (ls : Array Slot), lv_has ls 4 [(0, .ref q.mo), (1, .int (iI (g : Int))), (2, .int (iI st)), (3, .int (iI (k : Int)))] → W p l e (headSpec wMO_numbered rmMO_numbered).room s m args below meth c H locs 0 0 Q (F0 m 99 ls []) := by
                  intro n9
                  induction n9 with
                  | zero => intro k st hk2 hst hm; exact absurd hm (Nat.not_lt_zero _)
                  | succ n9 ih99 =>
                    intro k st hk2 hst hm99 H locs hP hD hS ls hl
                    refine lv_iload_n hx hb dMO_numbered_99 rfl (lv_at hl 3 rfl) ?_
                    refine lv_aload_n hx hb dMO_numbered_100 rfl (lv_at hl 0 rfl) ?_
                    refine va_get (D := D) (ci := 7) (v := .int (iI (ks.length : Int))) (C := nMO) (T := fMO) (N := 24) hx hb hts iwMO hown hK hP 0 rfl rfl 10 (by decide) (hts _ (List.mem_cons_of_mem _ lkMO_95)) (fun _ h9 => h9) rfl dMO_numbered_101 ?_
                    refine lz_icmp_ge (tgt := 144) hx hb dMO_numbered_104 (by decide) (by omega) (by omega) (fun c_104 => ?_) (fun c_104 => ?_)
                    · refine lv_iload_n hx hb dMO_numbered_144 rfl (lv_at hl 2 rfl) ?_
                      refine lz_if_eq (tgt := 150) hx hb dMO_numbered_145 (by decide) (by rcases hst with ⟨q, _⟩ | ⟨q, _⟩ <;> omega) (fun c_145 => ?_) (fun c_145 => ?_)
                      · refine lz_iinc (lv' := [(1, .int (iI ((g : Int) + 1))), (0, .ref q.mo), (2, .int (iI st)), (3, .int (iI (k : Int)))]) hx hb dMO_numbered_150 hl (k := 1) rfl (by decide) rfl (fun ls hl => ?_)
                        refine lv_goto (tgt := 70) hx hb dMO_numbered_153 (by decide) ?_
                        exact ih70 (g + 1) (by omega) (fun j hj => by
                            rcases Nat.lt_or_ge j g with q | q
                            · exact hno j q
                            · obtain rfl : j = g := by omega
                              rw [hk9]
                              intro e8
                              have e9 : ks9 = ks := Option.some.inj e8
                              rcases hst with ⟨q, _⟩ | ⟨_, q⟩
                              · omega
                              · exact q e9) (by omega) _ _ (hP.sub [0, 1, 2, 3] rfl) (hD.sub [0, 1, 2, 3] (by decide) rfl) hS _ (lv_sub hl [1, 0] rfl)
                      · refine lv_iload_n hx hb dMO_numbered_148 rfl (lv_at hl 1 rfl) ?_
                        exact hret H locs 0 0 149 ls (g : Int) (f, fm, fz, kss) ⟨Or.inl ⟨g, by omega, by
                                have e9 : ks9 = ks := by
                                  rcases hst with ⟨_, q1, q2⟩ | ⟨q, _⟩
                                  · exact list_eq_getD q1 (fun j hj => q2 j (by omega))
                                  · omega
                                rw [← e9]; exact hk9, hno, rfl, rfl⟩, hM⟩ (hP.sub [0, 1, 2, 3] rfl) (hD.sub [0, 1, 2, 3] (by decide) rfl) hS (Nat.zero_le _) (Nat.zero_le _) dMO_numbered_149
                    · refine lv_iload_n hx hb dMO_numbered_107 rfl (lv_at hl 2 rfl) ?_
                      refine lz_if_eq (tgt := 144) hx hb dMO_numbered_108 (by decide) (by rcases hst with ⟨q, _⟩ | ⟨q, _⟩ <;> omega) (fun c_108 => ?_) (fun c_108 => ?_)
                      · refine lv_iload_n hx hb dMO_numbered_144 rfl (lv_at hl 2 rfl) ?_
                        refine lz_if_eq (tgt := 150) hx hb dMO_numbered_145 (by decide) (by rcases hst with ⟨q, _⟩ | ⟨q, _⟩ <;> omega) (fun c_145 => ?_) (fun c_145 => ?_)
                        · refine lz_iinc (lv' := [(1, .int (iI ((g : Int) + 1))), (0, .ref q.mo), (2, .int (iI st)), (3, .int (iI (k : Int)))]) hx hb dMO_numbered_150 hl (k := 1) rfl (by decide) rfl (fun ls hl => ?_)
                          refine lv_goto (tgt := 70) hx hb dMO_numbered_153 (by decide) ?_
                          exact ih70 (g + 1) (by omega) (fun j hj => by
                              rcases Nat.lt_or_ge j g with q | q
                              · exact hno j q
                              · obtain rfl : j = g := by omega
                                rw [hk9]
                                intro e8
                                have e9 : ks9 = ks := Option.some.inj e8
                                rcases hst with ⟨q, _⟩ | ⟨_, q⟩
                                · omega
                                · exact q e9) (by omega) _ _ (hP.sub [0, 1, 2, 3] rfl) (hD.sub [0, 1, 2, 3] (by decide) rfl) hS _ (lv_sub hl [1, 0] rfl)
                        · refine lv_iload_n hx hb dMO_numbered_148 rfl (lv_at hl 1 rfl) ?_
                          exact hret H locs 0 0 149 ls (g : Int) (f, fm, fz, kss) ⟨Or.inl ⟨g, by omega, by
                                  have e9 : ks9 = ks := by
                                    rcases hst with ⟨_, q1, q2⟩ | ⟨q, _⟩
                                    · exact list_eq_getD q1 (fun j hj => q2 j (by omega))
                                    · omega
                                  rw [← e9]; exact hk9, hno, rfl, rfl⟩, hM⟩ (hP.sub [0, 1, 2, 3] rfl) (hD.sub [0, 1, 2, 3] (by decide) rfl) hS (Nat.zero_le _) (Nat.zero_le _) dMO_numbered_149
                      · obtain ⟨hs1, hl1, hj1⟩ : st = 1 ∧ ks9.length = ks.length ∧ ∀ j, j < k → ks9.getD j (-1) = ks.getD j (-1) := by
                          rcases hst with q | ⟨q, _⟩
                          · exact q
                          · omega
                        refine lv_aload_n hx hb dMO_numbered_111 rfl (lv_at hl 0 rfl) ?_
                        refine va_get (D := D) (ci := 7) (v := .ref q.xm) (C := nMO) (T := fMO) (N := 24) hx hb hts iwMO hown hK hP 0 rfl rfl 6 (by decide) (hts _ (List.mem_cons_of_mem _ lkMO_25)) (fun _ h9 => h9) rfl dMO_numbered_112 ?_
                        refine lv_sipush (v := iI (192)) hx hb dMO_numbered_115 (by decide) ?_
                        refine lv_iload_n hx hb dMO_numbered_118 rfl (lv_at hl 1 rfl) ?_
                        refine lz_imul hx hb dMO_numbered_119 ?_
                        refine lv_iload_n hx hb dMO_numbered_120 rfl (lv_at hl 3 rfl) ?_
                        refine lz_iadd hx hb dMO_numbered_121 ?_
                        refine lz_ialk hx hb hK hP 2 0 rfl rfl (z := (192 * (g : Int)) + (k : Int)) (192 * g + k) (by omega) (by omega) dMO_numbered_122 ?_
                        refine lz_as (x := fm (192 * g + k)) (y := ks9.getD k (-1)) (he9 _ (by omega)) ?_
                        refine lv_aload_n hx hb dMO_numbered_123 rfl (lv_at hl 0 rfl) ?_
                        refine va_get (D := D) (ci := 7) (v := .ref q.xl) (C := nMO) (T := fMO) (N := 24) hx hb hts iwMO hown hK hP 0 rfl rfl 9 (by decide) (hts _ (List.mem_cons_of_mem _ lkMO_31)) (fun _ h9 => h9) rfl dMO_numbered_124 ?_
                        refine lv_iload_n hx hb dMO_numbered_127 rfl (lv_at hl 3 rfl) ?_
                        refine lz_ialk hx hb hK hP 1 0 rfl rfl (z := (k : Int)) k rfl (by omega) dMO_numbered_128 ?_
                        refine lz_as (x := f k) (y := ks.getD k (-1)) (hE k (by omega)) ?_
                        refine lz_icmp_ne (tgt := 136) hx hb dMO_numbered_129 (by decide) (by have := hg9.key (j := k) (by omega); omega) (by have := hk.key (j := k) (by omega); omega) (fun c_129 => ?_) (fun c_129 => ?_)
                        · refine lv_iconst (v := iI (0)) hx hb dMO_numbered_136 rfl ?_
                          refine lv_istore_n (lv' := [(2, .int (iI 0)), (0, .ref q.mo), (1, .int (iI (g : Int))), (3, .int (iI (k : Int)))]) hx hb dMO_numbered_137 rfl hl (by decide) rfl (fun ls hl => ?_)
                          refine lz_iinc (lv' := [(3, .int (iI ((k : Int) + 1))), (2, .int (iI 0)), (0, .ref q.mo), (1, .int (iI (g : Int)))]) hx hb dMO_numbered_138 hl (k := 3) rfl (by decide) rfl (fun ls hl => ?_)
                          refine lv_goto (tgt := 99) hx hb dMO_numbered_141 (by decide) ?_
                          exact ih99 (k + 1) 0 (by omega) (Or.inr ⟨rfl, fun e9 => c_129 (by rw [e9])⟩) (by omega) _ _ (hP.sub [0, 1, 2, 3] rfl) (hD.sub [0, 1, 2, 3] (by decide) rfl) hS _ (lv_sub hl [2, 3, 1, 0] rfl)
                        · refine lv_iconst (v := iI (1)) hx hb dMO_numbered_132 rfl ?_
                          refine lv_goto (tgt := 137) hx hb dMO_numbered_133 (by decide) ?_
                          refine lv_istore_n (lv' := [(2, .int (iI 1)), (0, .ref q.mo), (1, .int (iI (g : Int))), (3, .int (iI (k : Int)))]) hx hb dMO_numbered_137 rfl hl (by decide) rfl (fun ls hl => ?_)
                          refine lz_iinc (lv' := [(3, .int (iI ((k : Int) + 1))), (2, .int (iI 1)), (0, .ref q.mo), (1, .int (iI (g : Int)))]) hx hb dMO_numbered_138 hl (k := 3) rfl (by decide) rfl (fun ls hl => ?_)
                          refine lv_goto (tgt := 99) hx hb dMO_numbered_141 (by decide) ?_
                          exact ih99 (k + 1) 1 (by omega) (Or.inl ⟨rfl, hl1, fun j hj => by
                              rcases Nat.lt_or_ge j k with q | q
                              · exact hj1 j q
                              · obtain rfl : j = k := by omega
                                exact c_129⟩) (by omega) _ _ (hP.sub [0, 1, 2, 3] rfl) (hD.sub [0, 1, 2, 3] (by decide) rfl) hS _ (lv_sub hl [2, 3, 1, 0] rfl)
                exact lp99 _ 0 0 (Nat.zero_le _) (Or.inr ⟨rfl, fun e9 => c_88 (by rw [e9])⟩) (Nat.lt_succ_self _) _ _ (hP.sub [0, 1, 2, 3] rfl) (hD.sub [0, 1, 2, 3] (by decide) rfl) hS _ (lv_sub hl [2, 3, 1, 0] rfl)
              · refine lv_iconst (v := iI (1)) hx hb dMO_numbered_91 rfl ?_
                refine lv_goto (tgt := 96) hx hb dMO_numbered_92 (by decide) ?_
                refine lv_istore_n (lv' := [(2, .int (iI 1)), (0, .ref q.mo), (1, .int (iI (g : Int)))]) hx hb dMO_numbered_96 rfl hl (by decide) rfl (fun ls hl => ?_)
                refine lv_iconst (v := iI (0)) hx hb dMO_numbered_97 rfl ?_
                refine lv_istore_n (lv' := [(3, .int (iI 0)), (2, .int (iI 1)), (0, .ref q.mo), (1, .int (iI (g : Int)))]) hx hb dMO_numbered_98 rfl hl (by decide) rfl (fun ls hl => ?_)
                have lp99 : ∀ (n9 : Nat) (k : Nat) (st : Int), (k ≤ ks.length) → ((st = 1 ∧ ks9.length = ks.length ∧ ∀ j, j < k → ks9.getD j (-1) = ks.getD j (-1)) ∨ (st = 0 ∧ ks9 ≠ ks)) → (ks.length - k) < n9 → ∀ (H : Heap) (locs : List Loc), va_P D vwCl [(moC q cn (kss.length : Int) (ks.length : Int)), (q.xl, .inl (cI, 200, .inl (zf f))), (q.xm, .inl (cI, 7680, .inl (zf fm))), (q.xz, .inl (cI, 40, .inl (zf fz)))] H → va_D A [(moC q cn (kss.length : Int) (ks.length : Int)), (q.xl, .inl (cI, 200, .inl (zf f))), (q.xm, .inl (cI, 7680, .inl (zf fm))), (q.xz, .inl (cI, 40, .inl (zf fz)))] → va_S A s.heap H locs → ∀ (ls : Array Slot), lv_has ls 4 [(0, .ref q.mo), (1, .int (iI (g : Int))), (2, .int (iI st)), (3, .int (iI (k : Int)))] → W p l e (headSpec wMO_numbered rmMO_numbered).room s m args below meth c H locs 0 0 Q (F0 m 99 ls []) := by
                  intro n9
                  induction n9 with
                  | zero => intro k st hk2 hst hm; exact absurd hm (Nat.not_lt_zero _)
                  | succ n9 ih99 =>
                    intro k st hk2 hst hm99 H locs hP hD hS ls hl
                    refine lv_iload_n hx hb dMO_numbered_99 rfl (lv_at hl 3 rfl) ?_
                    refine lv_aload_n hx hb dMO_numbered_100 rfl (lv_at hl 0 rfl) ?_
                    refine va_get (D := D) (ci := 7) (v := .int (iI (ks.length : Int))) (C := nMO) (T := fMO) (N := 24) hx hb hts iwMO hown hK hP 0 rfl rfl 10 (by decide) (hts _ (List.mem_cons_of_mem _ lkMO_95)) (fun _ h9 => h9) rfl dMO_numbered_101 ?_
                    refine lz_icmp_ge (tgt := 144) hx hb dMO_numbered_104 (by decide) (by omega) (by omega) (fun c_104 => ?_) (fun c_104 => ?_)
                    · refine lv_iload_n hx hb dMO_numbered_144 rfl (lv_at hl 2 rfl) ?_
                      refine lz_if_eq (tgt := 150) hx hb dMO_numbered_145 (by decide) (by rcases hst with ⟨q, _⟩ | ⟨q, _⟩ <;> omega) (fun c_145 => ?_) (fun c_145 => ?_)
                      · refine lz_iinc (lv' := [(1, .int (iI ((g : Int) + 1))), (0, .ref q.mo), (2, .int (iI st)), (3, .int (iI (k : Int)))]) hx hb dMO_numbered_150 hl (k := 1) rfl (by decide) rfl (fun ls hl => ?_)
                        refine lv_goto (tgt := 70) hx hb dMO_numbered_153 (by decide) ?_
                        exact ih70 (g + 1) (by omega) (fun j hj => by
                            rcases Nat.lt_or_ge j g with q | q
                            · exact hno j q
                            · obtain rfl : j = g := by omega
                              rw [hk9]
                              intro e8
                              have e9 : ks9 = ks := Option.some.inj e8
                              rcases hst with ⟨q, _⟩ | ⟨_, q⟩
                              · omega
                              · exact q e9) (by omega) _ _ (hP.sub [0, 1, 2, 3] rfl) (hD.sub [0, 1, 2, 3] (by decide) rfl) hS _ (lv_sub hl [1, 0] rfl)
                      · refine lv_iload_n hx hb dMO_numbered_148 rfl (lv_at hl 1 rfl) ?_
                        exact hret H locs 0 0 149 ls (g : Int) (f, fm, fz, kss) ⟨Or.inl ⟨g, by omega, by
                                have e9 : ks9 = ks := by
                                  rcases hst with ⟨_, q1, q2⟩ | ⟨q, _⟩
                                  · exact list_eq_getD q1 (fun j hj => q2 j (by omega))
                                  · omega
                                rw [← e9]; exact hk9, hno, rfl, rfl⟩, hM⟩ (hP.sub [0, 1, 2, 3] rfl) (hD.sub [0, 1, 2, 3] (by decide) rfl) hS (Nat.zero_le _) (Nat.zero_le _) dMO_numbered_149
                    · refine lv_iload_n hx hb dMO_numbered_107 rfl (lv_at hl 2 rfl) ?_
                      refine lz_if_eq (tgt := 144) hx hb dMO_numbered_108 (by decide) (by rcases hst with ⟨q, _⟩ | ⟨q, _⟩ <;> omega) (fun c_108 => ?_) (fun c_108 => ?_)
                      · refine lv_iload_n hx hb dMO_numbered_144 rfl (lv_at hl 2 rfl) ?_
                        refine lz_if_eq (tgt := 150) hx hb dMO_numbered_145 (by decide) (by rcases hst with ⟨q, _⟩ | ⟨q, _⟩ <;> omega) (fun c_145 => ?_) (fun c_145 => ?_)
                        · refine lz_iinc (lv' := [(1, .int (iI ((g : Int) + 1))), (0, .ref q.mo), (2, .int (iI st)), (3, .int (iI (k : Int)))]) hx hb dMO_numbered_150 hl (k := 1) rfl (by decide) rfl (fun ls hl => ?_)
                          refine lv_goto (tgt := 70) hx hb dMO_numbered_153 (by decide) ?_
                          exact ih70 (g + 1) (by omega) (fun j hj => by
                              rcases Nat.lt_or_ge j g with q | q
                              · exact hno j q
                              · obtain rfl : j = g := by omega
                                rw [hk9]
                                intro e8
                                have e9 : ks9 = ks := Option.some.inj e8
                                rcases hst with ⟨q, _⟩ | ⟨_, q⟩
                                · omega
                                · exact q e9) (by omega) _ _ (hP.sub [0, 1, 2, 3] rfl) (hD.sub [0, 1, 2, 3] (by decide) rfl) hS _ (lv_sub hl [1, 0] rfl)
                        · refine lv_iload_n hx hb dMO_numbered_148 rfl (lv_at hl 1 rfl) ?_
                          exact hret H locs 0 0 149 ls (g : Int) (f, fm, fz, kss) ⟨Or.inl ⟨g, by omega, by
                                  have e9 : ks9 = ks := by
                                    rcases hst with ⟨_, q1, q2⟩ | ⟨q, _⟩
                                    · exact list_eq_getD q1 (fun j hj => q2 j (by omega))
                                    · omega
                                  rw [← e9]; exact hk9, hno, rfl, rfl⟩, hM⟩ (hP.sub [0, 1, 2, 3] rfl) (hD.sub [0, 1, 2, 3] (by decide) rfl) hS (Nat.zero_le _) (Nat.zero_le _) dMO_numbered_149
                      · obtain ⟨hs1, hl1, hj1⟩ : st = 1 ∧ ks9.length = ks.length ∧ ∀ j, j < k → ks9.getD j (-1) = ks.getD j (-1) := by
                          rcases hst with q | ⟨q, _⟩
                          · exact q
                          · omega
                        refine lv_aload_n hx hb dMO_numbered_111 rfl (lv_at hl 0 rfl) ?_
                        refine va_get (D := D) (ci := 7) (v := .ref q.xm) (C := nMO) (T := fMO) (N := 24) hx hb hts iwMO hown hK hP 0 rfl rfl 6 (by decide) (hts _ (List.mem_cons_of_mem _ lkMO_25)) (fun _ h9 => h9) rfl dMO_numbered_112 ?_
                        refine lv_sipush (v := iI (192)) hx hb dMO_numbered_115 (by decide) ?_
                        refine lv_iload_n hx hb dMO_numbered_118 rfl (lv_at hl 1 rfl) ?_
                        refine lz_imul hx hb dMO_numbered_119 ?_
                        refine lv_iload_n hx hb dMO_numbered_120 rfl (lv_at hl 3 rfl) ?_
                        refine lz_iadd hx hb dMO_numbered_121 ?_
                        refine lz_ialk hx hb hK hP 2 0 rfl rfl (z := (192 * (g : Int)) + (k : Int)) (192 * g + k) (by omega) (by omega) dMO_numbered_122 ?_
                        refine lz_as (x := fm (192 * g + k)) (y := ks9.getD k (-1)) (he9 _ (by omega)) ?_
                        refine lv_aload_n hx hb dMO_numbered_123 rfl (lv_at hl 0 rfl) ?_
                        refine va_get (D := D) (ci := 7) (v := .ref q.xl) (C := nMO) (T := fMO) (N := 24) hx hb hts iwMO hown hK hP 0 rfl rfl 9 (by decide) (hts _ (List.mem_cons_of_mem _ lkMO_31)) (fun _ h9 => h9) rfl dMO_numbered_124 ?_
                        refine lv_iload_n hx hb dMO_numbered_127 rfl (lv_at hl 3 rfl) ?_
                        refine lz_ialk hx hb hK hP 1 0 rfl rfl (z := (k : Int)) k rfl (by omega) dMO_numbered_128 ?_
                        refine lz_as (x := f k) (y := ks.getD k (-1)) (hE k (by omega)) ?_
                        refine lz_icmp_ne (tgt := 136) hx hb dMO_numbered_129 (by decide) (by have := hg9.key (j := k) (by omega); omega) (by have := hk.key (j := k) (by omega); omega) (fun c_129 => ?_) (fun c_129 => ?_)
                        · refine lv_iconst (v := iI (0)) hx hb dMO_numbered_136 rfl ?_
                          refine lv_istore_n (lv' := [(2, .int (iI 0)), (0, .ref q.mo), (1, .int (iI (g : Int))), (3, .int (iI (k : Int)))]) hx hb dMO_numbered_137 rfl hl (by decide) rfl (fun ls hl => ?_)
                          refine lz_iinc (lv' := [(3, .int (iI ((k : Int) + 1))), (2, .int (iI 0)), (0, .ref q.mo), (1, .int (iI (g : Int)))]) hx hb dMO_numbered_138 hl (k := 3) rfl (by decide) rfl (fun ls hl => ?_)
                          refine lv_goto (tgt := 99) hx hb dMO_numbered_141 (by decide) ?_
                          exact ih99 (k + 1) 0 (by omega) (Or.inr ⟨rfl, fun e9 => c_129 (by rw [e9])⟩) (by omega) _ _ (hP.sub [0, 1, 2, 3] rfl) (hD.sub [0, 1, 2, 3] (by decide) rfl) hS _ (lv_sub hl [2, 3, 1, 0] rfl)
                        · refine lv_iconst (v := iI (1)) hx hb dMO_numbered_132 rfl ?_
                          refine lv_goto (tgt := 137) hx hb dMO_numbered_133 (by decide) ?_
                          refine lv_istore_n (lv' := [(2, .int (iI 1)), (0, .ref q.mo), (1, .int (iI (g : Int))), (3, .int (iI (k : Int)))]) hx hb dMO_numbered_137 rfl hl (by decide) rfl (fun ls hl => ?_)
                          refine lz_iinc (lv' := [(3, .int (iI ((k : Int) + 1))), (2, .int (iI 1)), (0, .ref q.mo), (1, .int (iI (g : Int)))]) hx hb dMO_numbered_138 hl (k := 3) rfl (by decide) rfl (fun ls hl => ?_)
                          refine lv_goto (tgt := 99) hx hb dMO_numbered_141 (by decide) ?_
                          exact ih99 (k + 1) 1 (by omega) (Or.inl ⟨rfl, hl1, fun j hj => by
                              rcases Nat.lt_or_ge j k with q | q
                              · exact hj1 j q
                              · obtain rfl : j = k := by omega
                                exact c_129⟩) (by omega) _ _ (hP.sub [0, 1, 2, 3] rfl) (hD.sub [0, 1, 2, 3] (by decide) rfl) hS _ (lv_sub hl [2, 3, 1, 0] rfl)
                exact lp99 _ 0 1 (Nat.zero_le _) (Or.inl ⟨rfl, by omega, fun j hj => absurd hj (Nat.not_lt_zero _)⟩) (Nat.lt_succ_self _) _ _ (hP.sub [0, 1, 2, 3] rfl) (hD.sub [0, 1, 2, 3] (by decide) rfl) hS _ (lv_sub hl [2, 3, 1, 0] rfl)
        exact lp70 _ 0 (Nat.zero_le _) (fun j hj => absurd hj (Nat.not_lt_zero _)) (Nat.lt_succ_self _) _ _ (hP.sub [0, 1, 2, 3] rfl) (hD.sub [0, 1, 2, 3] (by decide) rfl) hS _ (lv_sub hl [1, 0] rfl)
      · refine lv_aload_n hx hb dMO_numbered_10 rfl (lv_at hl 0 rfl) ?_
        refine va_get (D := D) (ci := 7) (v := .ref q.xl) (C := nMO) (T := fMO) (N := 24) hx hb hts iwMO hown hK hP 0 rfl rfl 9 (by decide) (hts _ (List.mem_cons_of_mem _ lkMO_31)) (fun _ h9 => h9) rfl dMO_numbered_11 ?_
        refine lv_iload_n hx hb dMO_numbered_14 rfl (lv_at hl 1 rfl) ?_
        refine lz_ialk hx hb hK hP 1 0 rfl rfl (z := (k : Int)) k rfl (by omega) dMO_numbered_15 ?_
        refine lv_istore_n (lv' := [(2, .int (iI (f k))), (0, .ref q.mo), (1, .int (iI (k : Int)))]) hx hb dMO_numbered_16 rfl hl (by decide) rfl (fun ls hl => ?_)
        refine lv_iload_n hx hb dMO_numbered_17 rfl (lv_at hl 2 rfl) ?_
        refine lv_istore_n (lv' := [(3, .int (iI (k : Int))), (2, .int (iI (f k))), (0, .ref q.mo), (1, .int (iI (k : Int)))]) hx hb dMO_numbered_18 rfl hl (by decide) rfl (fun ls hl => ?_)
        rw [show f = shf f k k from (shf_k f k).symm] at hP hD
        have lp19 : ∀ (n9 : Nat) (i : Nat), (i ≤ k) → (∀ j, i ≤ j → j < k → f k < f j) → (i) < n9 → ∀ (H : Heap) (locs : List Loc), va_P D vwCl [(moC q cn (kss.length : Int) (ks.length : Int)), (q.xl, .inl (cI, 200, .inl (zf (shf f k i)))), (q.xm, .inl (cI, 7680, .inl (zf fm))), (q.xz, .inl (cI, 40, .inl (zf fz)))] H → va_D A [(moC q cn (kss.length : Int) (ks.length : Int)), (q.xl, .inl (cI, 200, .inl (zf (shf f k i)))), (q.xm, .inl (cI, 7680, .inl (zf fm))), (q.xz, .inl (cI, 40, .inl (zf fz)))] → va_S A s.heap H locs → ∀ (ls : Array Slot), lv_has ls 4 [(0, .ref q.mo), (1, .int (iI (k : Int))), (2, .int (iI (f k))), (3, .int (iI (i : Int)))] → W p l e (headSpec wMO_numbered rmMO_numbered).room s m args below meth c H locs 0 0 Q (F0 m 19 ls []) := by
          intro n9
          induction n9 with
          | zero => intro i hi h3 hm; exact absurd hm (Nat.not_lt_zero _)
          | succ n9 ih19 =>
            intro i hi h3 hm19 H locs hP hD hS ls hl
            refine lv_iload_n hx hb dMO_numbered_19 rfl (lv_at hl 3 rfl) ?_
            refine lz_if_le (tgt := 55) hx hb dMO_numbered_20 (by decide) (by omega) (fun c_20 => ?_) (fun c_20 => ?_)
            · refine lv_aload_n hx hb dMO_numbered_55 rfl (lv_at hl 0 rfl) ?_
              refine va_get (D := D) (ci := 7) (v := .ref q.xl) (C := nMO) (T := fMO) (N := 24) hx hb hts iwMO hown hK hP 0 rfl rfl 9 (by decide) (hts _ (List.mem_cons_of_mem _ lkMO_31)) (fun _ h9 => h9) rfl dMO_numbered_56 ?_
              refine lv_iload_n hx hb dMO_numbered_59 rfl (lv_at hl 3 rfl) ?_
              refine lv_iload_n hx hb dMO_numbered_60 rfl (lv_at hl 2 rfl) ?_
              refine lz_iask hx hb hK hP hD hS 1 0 rfl rfl (z := (i : Int)) (v := f k) i rfl (by omega) dMO_numbered_61 (fun H locs hP hD hS => ?_)
              have hP : va_P D vwCl [(moC q cn (kss.length : Int) (ks.length : Int)), (q.xl, .inl (cI, 200, .inl (zf (zu (shf f k i) i (f k))))), (q.xm, .inl (cI, 7680, .inl (zf fm))), (q.xz, .inl (cI, 40, .inl (zf fz)))] H := hP
              have hD : va_D A [(moC q cn (kss.length : Int) (ks.length : Int)), (q.xl, .inl (cI, 200, .inl (zf (zu (shf f k i) i (f k))))), (q.xm, .inl (cI, 7680, .inl (zf fm))), (q.xz, .inl (cI, 40, .inl (zf fz)))] := hD
              refine lz_iinc (lv' := [(1, .int (iI ((k : Int) + 1))), (0, .ref q.mo), (2, .int (iI (f k))), (3, .int (iI (i : Int)))]) hx hb dMO_numbered_62 hl (k := 1) rfl (by decide) rfl (fun ls hl => ?_)
              refine lv_goto (tgt := 2) hx hb dMO_numbered_65 (by decide) ?_
              exact ih2 (k + 1) (zu (shf f k i) i (f k)) (by omega) (ins_ok (by omega) hi h1 h2 h3 (by first | exact Or.inl (by omega) | exact Or.inr c_32)).1 (ins_ok (by omega) hi h1 h2 h3 (by first | exact Or.inl (by omega) | exact Or.inr c_32)).2 (by omega) _ _ (hP.sub [0, 1, 2, 3] rfl) (hD.sub [0, 1, 2, 3] (by decide) rfl) hS _ (lv_sub hl [1, 0] rfl)
            · refine lv_aload_n hx hb dMO_numbered_23 rfl (lv_at hl 0 rfl) ?_
              refine va_get (D := D) (ci := 7) (v := .ref q.xl) (C := nMO) (T := fMO) (N := 24) hx hb hts iwMO hown hK hP 0 rfl rfl 9 (by decide) (hts _ (List.mem_cons_of_mem _ lkMO_31)) (fun _ h9 => h9) rfl dMO_numbered_24 ?_
              refine lv_iload_n hx hb dMO_numbered_27 rfl (lv_at hl 3 rfl) ?_
              refine lv_iconst (v := iI (1)) hx hb dMO_numbered_28 rfl ?_
              refine lz_isub hx hb dMO_numbered_29 ?_
              refine lz_ialk hx hb hK hP 1 0 rfl rfl (z := (i : Int) - 1) (i - 1) (by omega) (by omega) dMO_numbered_30 ?_
              refine lz_as (x := (shf f k i) (i - 1)) (y := f (i - 1)) (shf_le f (by omega)) ?_
              refine lv_iload_n hx hb dMO_numbered_31 rfl (lv_at hl 2 rfl) ?_
              refine lz_icmp_le (tgt := 55) hx hb dMO_numbered_32 (by decide) (by have := hr9 (i - 1) (by omega); omega) (by have := hr9 k (by omega); omega) (fun c_32 => ?_) (fun c_32 => ?_)
              · refine lv_aload_n hx hb dMO_numbered_55 rfl (lv_at hl 0 rfl) ?_
                refine va_get (D := D) (ci := 7) (v := .ref q.xl) (C := nMO) (T := fMO) (N := 24) hx hb hts iwMO hown hK hP 0 rfl rfl 9 (by decide) (hts _ (List.mem_cons_of_mem _ lkMO_31)) (fun _ h9 => h9) rfl dMO_numbered_56 ?_
                refine lv_iload_n hx hb dMO_numbered_59 rfl (lv_at hl 3 rfl) ?_
                refine lv_iload_n hx hb dMO_numbered_60 rfl (lv_at hl 2 rfl) ?_
                refine lz_iask hx hb hK hP hD hS 1 0 rfl rfl (z := (i : Int)) (v := f k) i rfl (by omega) dMO_numbered_61 (fun H locs hP hD hS => ?_)
                have hP : va_P D vwCl [(moC q cn (kss.length : Int) (ks.length : Int)), (q.xl, .inl (cI, 200, .inl (zf (zu (shf f k i) i (f k))))), (q.xm, .inl (cI, 7680, .inl (zf fm))), (q.xz, .inl (cI, 40, .inl (zf fz)))] H := hP
                have hD : va_D A [(moC q cn (kss.length : Int) (ks.length : Int)), (q.xl, .inl (cI, 200, .inl (zf (zu (shf f k i) i (f k))))), (q.xm, .inl (cI, 7680, .inl (zf fm))), (q.xz, .inl (cI, 40, .inl (zf fz)))] := hD
                refine lz_iinc (lv' := [(1, .int (iI ((k : Int) + 1))), (0, .ref q.mo), (2, .int (iI (f k))), (3, .int (iI (i : Int)))]) hx hb dMO_numbered_62 hl (k := 1) rfl (by decide) rfl (fun ls hl => ?_)
                refine lv_goto (tgt := 2) hx hb dMO_numbered_65 (by decide) ?_
                exact ih2 (k + 1) (zu (shf f k i) i (f k)) (by omega) (ins_ok (by omega) hi h1 h2 h3 (by first | exact Or.inl (by omega) | exact Or.inr c_32)).1 (ins_ok (by omega) hi h1 h2 h3 (by first | exact Or.inl (by omega) | exact Or.inr c_32)).2 (by omega) _ _ (hP.sub [0, 1, 2, 3] rfl) (hD.sub [0, 1, 2, 3] (by decide) rfl) hS _ (lv_sub hl [1, 0] rfl)
              · refine lv_aload_n hx hb dMO_numbered_35 rfl (lv_at hl 0 rfl) ?_
                refine va_get (D := D) (ci := 7) (v := .ref q.xl) (C := nMO) (T := fMO) (N := 24) hx hb hts iwMO hown hK hP 0 rfl rfl 9 (by decide) (hts _ (List.mem_cons_of_mem _ lkMO_31)) (fun _ h9 => h9) rfl dMO_numbered_36 ?_
                refine lv_iload_n hx hb dMO_numbered_39 rfl (lv_at hl 3 rfl) ?_
                refine lv_aload_n hx hb dMO_numbered_40 rfl (lv_at hl 0 rfl) ?_
                refine va_get (D := D) (ci := 7) (v := .ref q.xl) (C := nMO) (T := fMO) (N := 24) hx hb hts iwMO hown hK hP 0 rfl rfl 9 (by decide) (hts _ (List.mem_cons_of_mem _ lkMO_31)) (fun _ h9 => h9) rfl dMO_numbered_41 ?_
                refine lv_iload_n hx hb dMO_numbered_44 rfl (lv_at hl 3 rfl) ?_
                refine lv_iconst (v := iI (1)) hx hb dMO_numbered_45 rfl ?_
                refine lz_isub hx hb dMO_numbered_46 ?_
                refine lz_ialk hx hb hK hP 1 0 rfl rfl (z := (i : Int) - 1) (i - 1) (by omega) (by omega) dMO_numbered_47 ?_
                refine lz_as (x := (shf f k i) (i - 1)) (y := f (i - 1)) (shf_le f (by omega)) ?_
                refine lz_iask hx hb hK hP hD hS 1 0 rfl rfl (z := (i : Int)) (v := f (i - 1)) i rfl (by omega) dMO_numbered_48 (fun H locs hP hD hS => ?_)
                have hP : va_P D vwCl [(moC q cn (kss.length : Int) (ks.length : Int)), (q.xl, .inl (cI, 200, .inl (zf (zu (shf f k i) i (f (i - 1)))))), (q.xm, .inl (cI, 7680, .inl (zf fm))), (q.xz, .inl (cI, 40, .inl (zf fz)))] H := hP
                have hD : va_D A [(moC q cn (kss.length : Int) (ks.length : Int)), (q.xl, .inl (cI, 200, .inl (zf (zu (shf f k i) i (f (i - 1)))))), (q.xm, .inl (cI, 7680, .inl (zf fm))), (q.xz, .inl (cI, 40, .inl (zf fz)))] := hD
                refine lz_iinc (lv' := [(3, .int (iI ((i : Int) + (-1)))), (0, .ref q.mo), (1, .int (iI (k : Int))), (2, .int (iI (f k)))]) hx hb dMO_numbered_49 hl (k := 3) rfl (by decide) rfl (fun ls hl => ?_)
                refine lv_goto (tgt := 19) hx hb dMO_numbered_52 (by decide) ?_
                rw [show zu (shf f k i) i (f (i - 1)) = shf f k (i - 1) from shf_s f (by omega) hi] at hP hD
                rw [show (i : Int) + (-1) = ((i - 1 : Nat) : Int) from by omega] at hl
                exact ih19 (i - 1) (by omega) (fun j h8 h9 => by
                    by_cases e : j = i - 1
                    · rw [e]; exact c_32
                    · exact h3 j (by omega) h9) (by omega) _ _ (hP.sub [0, 1, 2, 3] rfl) (hD.sub [0, 1, 2, 3] (by decide) rfl) hS _ (lv_sub hl [1, 2, 3, 0] rfl)
        exact lp19 _ k (Nat.le_refl _) (fun j h8 h9 => by omega) (Nat.lt_succ_self _) _ _ (hP.sub [0, 1, 2, 3] rfl) (hD.sub [0, 1, 2, 3] (by decide) rfl) hS _ (lv_sub hl [2, 3, 1, 0] rfl)
  exact lp2 _ 1 fl (by omega) hf (fun i j h8 h9 => by omega) (Nat.lt_succ_self _) _ _ (hP.sub [0, 1, 2, 3] rfl) (hD.sub [0, 1, 2, 3] (by decide) rfl) hS _ (lv_sub hl [1, 0] rfl)

def rmMO_group : Room := { frames := 2, cells := 0, slots := 0, locals := 49 }
set_option maxHeartbeats 4000000 in
set_option maxRecDepth 100000 in
theorem mMO_group (l : Launch) (D : va_G) (cI cJ cZ : ClassId) (q : MoA) (cn gn ln : Int) (fl fc fm fz fa ga fb gb fd gd : Nat → Int) (chs : List Int) (kss : List (List Int)) (hcn : cn = (chs.length : Int)) (hgn : gn = (kss.length : Int)) (hc : chs.length ≤ 10) (hce : emb fc 0 chs) (hv : ∀ a ∈ chs, vOK a) (hM : MEM fm fz kss) : zI l yMO_group wMO_group rmMO_group D vwCl (zM cI cJ cZ) [.ref q.mo] [(moC q cn gn ln), (q.xl, .inl (cI, 200, .inl (zf fl))), (q.xc, .inl (cI, 10, .inl (zf fc))), (q.xm, .inl (cI, 7680, .inl (zf fm))), (q.xz, .inl (cI, 40, .inl (zf fz))), (q.xa, .inl (cI, 9, .inl (zf fa))), (q.ya, .inl (cI, 3, .inl (zf ga))), (q.xb, .inl (cI, 9, .inl (zf fb))), (q.yb, .inl (cI, 3, .inl (zf gb))), (q.xd, .inl (cI, 9, .inl (zf fd))), (q.yd, .inl (cI, 3, .inl (zf gd)))] (S := ((Nat → Int) × (Nat → Int) × (Nat → Int) × List (List Int) × Int × (Nat → Int) × (Nat → Int) × (Nat → Int) × (Nat → Int) × (Nat → Int) × (Nat → Int))) (fun z u => sGroup kss chs z u.2.2.2.1 ∧ MEM u.2.1 u.2.2.1 u.2.2.2.1) (fun u => [(moC q 0 (u.2.2.2.1.length : Int) u.2.2.2.2.1), (q.xl, .inl (cI, 200, .inl (zf u.1))), (q.xc, .inl (cI, 10, .inl (zf fc))), (q.xm, .inl (cI, 7680, .inl (zf u.2.1))), (q.xz, .inl (cI, 40, .inl (zf u.2.2.1))), (q.xa, .inl (cI, 9, .inl (zf u.2.2.2.2.2.1))), (q.ya, .inl (cI, 3, .inl (zf u.2.2.2.2.2.2.1))), (q.xb, .inl (cI, 9, .inl (zf u.2.2.2.2.2.2.2.1))), (q.yb, .inl (cI, 3, .inl (zf u.2.2.2.2.2.2.2.2.1))), (q.xd, .inl (cI, 9, .inl (zf u.2.2.2.2.2.2.2.2.2.1))), (q.yd, .inl (cI, 3, .inl (zf u.2.2.2.2.2.2.2.2.2.2)))]) := by
  refine zI.of (cc := cMO_group) (maxL := 5) (rt := .int) (by decide) rfl (Nat.le_of_ble_eq_true rfl) (fun _ _ _ => rfl) ?_
  intro p e s m args below meth c A ls Q hx hb hml hown hts hnm hK hD hA hAe hX hl hret H locs hP hS
  have hl : lv_has ls 5 [(0, .ref q.mo)] := hl
  subst hcn
  subst hgn
  have hMl := hM.1
  refine lv_aload_n hx hb dMO_group_0 rfl (lv_at hl 0 rfl) ?_
  refine lv_iconst (v := iI (1)) hx hb dMO_group_1 rfl ?_
  refine va_put (D := D) (ci := 7) (v := .int (iI 1)) (ty := .int) (C := nMO) (T := fMO) (N := 24) hx hb hts iwMO tMO tkMO nmMO hown hK hP hD hS 0 rfl rfl 10 (by decide) (hts _ (List.mem_cons_of_mem _ lkMO_95)) (fun _ h9 => h9) rfl (by decide +kernel) rfl rfl (Nat.le_of_ble_eq_true rfl) dMO_group_2 (fun H locs hP hD hS => ?_)
  have hP : va_P D vwCl [(moC q (chs.length : Int) (kss.length : Int) 1), (q.xl, .inl (cI, 200, .inl (zf fl))), (q.xc, .inl (cI, 10, .inl (zf fc))), (q.xm, .inl (cI, 7680, .inl (zf fm))), (q.xz, .inl (cI, 40, .inl (zf fz))), (q.xa, .inl (cI, 9, .inl (zf fa))), (q.ya, .inl (cI, 3, .inl (zf ga))), (q.xb, .inl (cI, 9, .inl (zf fb))), (q.yb, .inl (cI, 3, .inl (zf gb))), (q.xd, .inl (cI, 9, .inl (zf fd))), (q.yd, .inl (cI, 3, .inl (zf gd)))] H := hP
  have hD : va_D A [(moC q (chs.length : Int) (kss.length : Int) 1), (q.xl, .inl (cI, 200, .inl (zf fl))), (q.xc, .inl (cI, 10, .inl (zf fc))), (q.xm, .inl (cI, 7680, .inl (zf fm))), (q.xz, .inl (cI, 40, .inl (zf fz))), (q.xa, .inl (cI, 9, .inl (zf fa))), (q.ya, .inl (cI, 3, .inl (zf ga))), (q.xb, .inl (cI, 9, .inl (zf fb))), (q.yb, .inl (cI, 3, .inl (zf gb))), (q.xd, .inl (cI, 9, .inl (zf fd))), (q.yd, .inl (cI, 3, .inl (zf gd)))] := hD
  refine lv_aload_n hx hb dMO_group_5 rfl (lv_at hl 0 rfl) ?_
  refine va_get (D := D) (ci := 7) (v := .ref q.xl) (C := nMO) (T := fMO) (N := 24) hx hb hts iwMO hown hK hP 0 rfl rfl 9 (by decide) (hts _ (List.mem_cons_of_mem _ lkMO_31)) (fun _ h9 => h9) rfl dMO_group_6 ?_
  refine lv_iconst (v := iI (0)) hx hb dMO_group_9 rfl ?_
  refine zRI.back ((va_runS (As := []) (rest := [.int (iI 0), .ref q.xl]) ⟨hx, hb, hml, hown, hts⟩ (mMO_identity l D cI cJ cZ) (va_cwS 0 hts (gT1 lkMO_98 (gT1 smMO_identity (gT1 iniMO (gTW kcMO_identity)))) rfl rfl rfl (by decide +kernel) ⟨Nat.le_of_ble_eq_true rfl, Nat.le_of_ble_eq_true rfl⟩) ⟨zRd_blind, zRd.at (wc := []) hK (hP.sub (ws' := []) [] rfl) (stF.now hX hS)⟩ rfl rfl hl.1 rfl (lv_room (Nat.le_of_ble_eq_true rfl)) dMO_group_10 ⟨Nat.le_of_ble_eq_true rfl, Nat.le_of_ble_eq_true rfl⟩).run) (fun z_10 q_10 => ?_)
  obtain rfl : z_10 = u0 := q_10
  refine lz_iask hx hb hK hP hD hS 1 0 rfl rfl (z := 0) (v := u0) 0 rfl (by omega) dMO_group_13 (fun H locs hP hD hS => ?_)
  have hP : va_P D vwCl [(moC q (chs.length : Int) (kss.length : Int) 1), (q.xl, .inl (cI, 200, .inl (zf (zu fl 0 u0)))), (q.xc, .inl (cI, 10, .inl (zf fc))), (q.xm, .inl (cI, 7680, .inl (zf fm))), (q.xz, .inl (cI, 40, .inl (zf fz))), (q.xa, .inl (cI, 9, .inl (zf fa))), (q.ya, .inl (cI, 3, .inl (zf ga))), (q.xb, .inl (cI, 9, .inl (zf fb))), (q.yb, .inl (cI, 3, .inl (zf gb))), (q.xd, .inl (cI, 9, .inl (zf fd))), (q.yd, .inl (cI, 3, .inl (zf gd)))] H := hP
  have hD : va_D A [(moC q (chs.length : Int) (kss.length : Int) 1), (q.xl, .inl (cI, 200, .inl (zf (zu fl 0 u0)))), (q.xc, .inl (cI, 10, .inl (zf fc))), (q.xm, .inl (cI, 7680, .inl (zf fm))), (q.xz, .inl (cI, 40, .inl (zf fz))), (q.xa, .inl (cI, 9, .inl (zf fa))), (q.ya, .inl (cI, 3, .inl (zf ga))), (q.xb, .inl (cI, 9, .inl (zf fb))), (q.yb, .inl (cI, 3, .inl (zf gb))), (q.xd, .inl (cI, 9, .inl (zf fd))), (q.yd, .inl (cI, 3, .inl (zf gd)))] := hD
  refine lv_iconst (v := iI (1)) hx hb dMO_group_14 rfl ?_
  refine lv_istore_n (lv' := [(1, .int (iI 1)), (0, .ref q.mo)]) hx hb dMO_group_15 rfl hl (by decide) rfl (fun ls hl => ?_)
  refine lv_iconst (v := iI (0)) hx hb dMO_group_16 rfl ?_
  refine lv_istore_n (lv' := [(2, .int (iI 0)), (1, .int (iI 1)), (0, .ref q.mo)]) hx hb dMO_group_17 rfl hl (by decide) rfl (fun ls hl => ?_)
  have e1 : ((1 : Int)) = (([u0] : List Int).length : Int) := rfl
  have hP : va_P D vwCl [(moC q (chs.length : Int) (kss.length : Int) (([u0] : List Int).length : Int)), (q.xl, .inl (cI, 200, .inl (zf (zu fl 0 u0)))), (q.xc, .inl (cI, 10, .inl (zf fc))), (q.xm, .inl (cI, 7680, .inl (zf fm))), (q.xz, .inl (cI, 40, .inl (zf fz))), (q.xa, .inl (cI, 9, .inl (zf fa))), (q.ya, .inl (cI, 3, .inl (zf ga))), (q.xb, .inl (cI, 9, .inl (zf fb))), (q.yb, .inl (cI, 3, .inl (zf gb))), (q.xd, .inl (cI, 9, .inl (zf fd))), (q.yd, .inl (cI, 3, .inl (zf gd)))] H := hP
  have hD : va_D A [(moC q (chs.length : Int) (kss.length : Int) (([u0] : List Int).length : Int)), (q.xl, .inl (cI, 200, .inl (zf (zu fl 0 u0)))), (q.xc, .inl (cI, 10, .inl (zf fc))), (q.xm, .inl (cI, 7680, .inl (zf fm))), (q.xz, .inl (cI, 40, .inl (zf fz))), (q.xa, .inl (cI, 9, .inl (zf fa))), (q.ya, .inl (cI, 3, .inl (zf ga))), (q.xb, .inl (cI, 9, .inl (zf fb))), (q.yb, .inl (cI, 3, .inl (zf gb))), (q.xd, .inl (cI, 9, .inl (zf fd))), (q.yd, .inl (cI, 3, .inl (zf gd)))] := hD
  have lp18 : ∀ (n9 : Nat) (k : Nat) (L : List Int) (st : Int) (fl1 fa1 ga1 fb1 gb1 fd1 gd1 : Nat → Int), (L.length ≤ 192) → (emb fl1 0 L) → (∀ x ∈ L, vOK x) → ((st = 1 ∧ BI chs L k) ∨ (st = 0 ∧ ¬ ∃ ks, genOK chs ks)) → (k ≤ 192) → (193 - k) < n9 → ∀ (H : Heap) (locs : List Loc), va_P D vwCl [(moC q (chs.length : Int) (kss.length : Int) (L.length : Int)), (q.xl, .inl (cI, 200, .inl (zf fl1))), (q.xc, .inl (cI, 10, .inl (zf fc))), (q.xm, .inl (cI, 7680, .inl (zf fm))), (q.xz, .inl (cI, 40, .inl (zf fz))), (q.xa, .inl (cI, 9, .inl (zf fa1))), (q.ya, .inl (cI, 3, .inl (zf ga1))), (q.xb, .inl (cI, 9, .inl (zf fb1))), (q.yb, .inl (cI, 3, .inl (zf gb1))), (q.xd, .inl (cI, 9, .inl (zf fd1))), (q.yd, .inl (cI, 3, .inl (zf gd1)))] H → va_D A [(moC q (chs.length : Int) (kss.length : Int) (L.length : Int)), (q.xl, .inl (cI, 200, .inl (zf fl1))), (q.xc, .inl (cI, 10, .inl (zf fc))), (q.xm, .inl (cI, 7680, .inl (zf fm))), (q.xz, .inl (cI, 40, .inl (zf fz))), (q.xa, .inl (cI, 9, .inl (zf fa1))), (q.ya, .inl (cI, 3, .inl (zf ga1))), (q.xb, .inl (cI, 9, .inl (zf fb1))), (q.yb, .inl (cI, 3, .inl (zf gb1))), (q.xd, .inl (cI, 9, .inl (zf fd1))), (q.yd, .inl (cI, 3, .inl (zf gd1)))] → va_S A s.heap H locs → ∀ (ls : Array Slot), lv_has ls 5 [(0, .ref q.mo), (1, .int (iI st)), (2, .int (iI (k : Int)))] → W p l e (headSpec wMO_group rmMO_group).room s m args below meth c H locs 0 0 Q (F0 m 18 ls []) := by
    intro n9
    induction n9 with
    | zero => intro k L st fl1 fa1 ga1 fb1 gb1 fd1 gd1 hL he hLv hst hk3 hm; exact absurd hm (Nat.not_lt_zero _)
    | succ n9 ih18 =>
      intro k L st fl1 fa1 ga1 fb1 gb1 fd1 gd1 hL he hLv hst hk3 hm18 H locs hP hD hS ls hl
      refine lv_iload_n hx hb dMO_group_18 rfl (lv_at hl 2 rfl) ?_
      refine lv_aload_n hx hb dMO_group_19 rfl (lv_at hl 0 rfl) ?_
      refine va_get (D := D) (ci := 7) (v := .int (iI (L.length : Int))) (C := nMO) (T := fMO) (N := 24) hx hb hts iwMO hown hK hP 0 rfl rfl 10 (by decide) (hts _ (List.mem_cons_of_mem _ lkMO_95)) (fun _ h9 => h9) rfl dMO_group_20 ?_
      refine lz_icmp_ge (tgt := 146) hx hb dMO_group_23 (by decide) (by omega) (by omega) (fun c_23 => ?_) (fun c_23 => ?_)
      · refine lv_aload_n hx hb dMO_group_146 rfl (lv_at hl 0 rfl) ?_
        refine lv_iconst (v := iI (0)) hx hb dMO_group_147 rfl ?_
        refine va_put (D := D) (ci := 7) (v := .int (iI 0)) (ty := .int) (C := nMO) (T := fMO) (N := 24) hx hb hts iwMO tMO tkMO nmMO hown hK hP hD hS 0 rfl rfl 5 (by decide) (hts _ (List.mem_cons_of_mem _ lkMO_92)) (fun _ h9 => h9) rfl (by decide +kernel) rfl rfl (Nat.le_of_ble_eq_true rfl) dMO_group_148 (fun H locs hP hD hS => ?_)
        have hP : va_P D vwCl [(moC q 0 (kss.length : Int) (L.length : Int)), (q.xl, .inl (cI, 200, .inl (zf fl1))), (q.xc, .inl (cI, 10, .inl (zf fc))), (q.xm, .inl (cI, 7680, .inl (zf fm))), (q.xz, .inl (cI, 40, .inl (zf fz))), (q.xa, .inl (cI, 9, .inl (zf fa1))), (q.ya, .inl (cI, 3, .inl (zf ga1))), (q.xb, .inl (cI, 9, .inl (zf fb1))), (q.yb, .inl (cI, 3, .inl (zf gb1))), (q.xd, .inl (cI, 9, .inl (zf fd1))), (q.yd, .inl (cI, 3, .inl (zf gd1)))] H := hP
        have hD : va_D A [(moC q 0 (kss.length : Int) (L.length : Int)), (q.xl, .inl (cI, 200, .inl (zf fl1))), (q.xc, .inl (cI, 10, .inl (zf fc))), (q.xm, .inl (cI, 7680, .inl (zf fm))), (q.xz, .inl (cI, 40, .inl (zf fz))), (q.xa, .inl (cI, 9, .inl (zf fa1))), (q.ya, .inl (cI, 3, .inl (zf ga1))), (q.xb, .inl (cI, 9, .inl (zf fb1))), (q.yb, .inl (cI, 3, .inl (zf gb1))), (q.xd, .inl (cI, 9, .inl (zf fd1))), (q.yd, .inl (cI, 3, .inl (zf gd1)))] := hD
        refine lv_iload_n hx hb dMO_group_151 rfl (lv_at hl 1 rfl) ?_
        refine lz_if_eq (tgt := 162) hx hb dMO_group_152 (by decide) (by rcases hst with ⟨q, _⟩ | ⟨q, _⟩ <;> omega) (fun c_152 => ?_) (fun c_152 => ?_)
        · refine lv_iconst (v := iI (-1)) hx hb dMO_group_162 rfl ?_
          exact hret H locs 0 0 163 ls (-1) (fl1, fm, fz, kss, (L.length : Int), fa1, ga1, fb1, gb1, fd1, gd1) ⟨Or.inr ⟨by
                  rcases hst with ⟨q, _⟩ | ⟨_, q⟩
                  · omega
                  · exact q, rfl, rfl⟩, hM⟩ (hP.sub [0, 1, 2, 3, 4, 5, 6, 7, 8, 9, 10] rfl) (hD.sub [0, 1, 2, 3, 4, 5, 6, 7, 8, 9, 10] (by decide) rfl) hS (Nat.zero_le _) (Nat.zero_le _) dMO_group_163
        · obtain ⟨hs1, hB⟩ : st = 1 ∧ BI chs L k := by
            rcases hst with q | ⟨q, _⟩
            · exact q
            · omega
          have hkL : k = L.length := by have := hB.2.2.2.1; omega
          rw [hkL] at hB
          obtain ⟨ks, hgk, hmm, hlk, hgm⟩ := hB.done hL hv
          refine lv_aload_n hx hb dMO_group_155 rfl (lv_at hl 0 rfl) ?_
          refine zI.back (va_runV (As := []) (rest := []) ⟨hx, hb, hml, hown, hts⟩ ((mMO_numbered l D cI cJ cZ q 0 (kss.length : Int) (L.length : Int) fl1 fm fz ks kss (by omega) rfl (by rw [hlk]; exact fset_of he hB.1 hmm) hgm hM) H.size) (cwV 0 hts (gT1 lkMO_110 (gT1 imMO_numbered (gT1 seMO_numbered (gT1 iniMO (gTW kcMO_numbered))))) rfl rfl rfl (by decide +kernel) ⟨Nat.le_of_ble_eq_true rfl, Nat.le_of_ble_eq_true rfl⟩) ⟨zPre_blind, va_recv hK hP (ci := 7) (q0 := 0) rfl rfl, zPre.at (wc := [(moC q 0 (kss.length : Int) (L.length : Int)), (q.xl, .inl (cI, 200, .inl (zf fl1))), (q.xm, .inl (cI, 7680, .inl (zf fm))), (q.xz, .inl (cI, 40, .inl (zf fz)))]) hK hP hD hS hA hX [0, 1, 3, 4] (by decide) rfl⟩ rfl rfl hl.1 rfl (lv_room (Nat.le_of_ble_eq_true rfl)) dMO_group_156 ⟨Nat.le_of_ble_eq_true rfl, Nat.le_of_ble_eq_true rfl⟩) (wr := [(q.xc, .inl (cI, 10, .inl (zf fc))), (q.xa, .inl (cI, 9, .inl (zf fa1))), (q.ya, .inl (cI, 3, .inl (zf ga1))), (q.xb, .inl (cI, 9, .inl (zf fb1))), (q.yb, .inl (cI, 3, .inl (zf gb1))), (q.xd, .inl (cI, 9, .inl (zf fd1))), (q.yd, .inl (cI, 3, .inl (zf gd1)))]) hP hD hS hA [0, 1, 3, 4] [2, 5, 6, 7, 8, 9, 10] rfl rfl (by decide) (by decide) (fun z_156 u_156 H locs q_156 hP hD hS hz_156 hk_156 => ?_)
          obtain ⟨fl9, fm9, fz9, kss9⟩ := u_156
          obtain ⟨hn9, hM9⟩ := q_156
          have hP : va_P D vwCl [(q.xc, .inl (cI, 10, .inl (zf fc))), (q.xa, .inl (cI, 9, .inl (zf fa1))), (q.ya, .inl (cI, 3, .inl (zf ga1))), (q.xb, .inl (cI, 9, .inl (zf fb1))), (q.yb, .inl (cI, 3, .inl (zf gb1))), (q.xd, .inl (cI, 9, .inl (zf fd1))), (q.yd, .inl (cI, 3, .inl (zf gd1))), (moC q 0 (kss9.length : Int) (L.length : Int)), (q.xl, .inl (cI, 200, .inl (zf fl9))), (q.xm, .inl (cI, 7680, .inl (zf fm9))), (q.xz, .inl (cI, 40, .inl (zf fz9)))] H := hP
          have hD : va_D A [(q.xc, .inl (cI, 10, .inl (zf fc))), (q.xa, .inl (cI, 9, .inl (zf fa1))), (q.ya, .inl (cI, 3, .inl (zf ga1))), (q.xb, .inl (cI, 9, .inl (zf fb1))), (q.yb, .inl (cI, 3, .inl (zf gb1))), (q.xd, .inl (cI, 9, .inl (zf fd1))), (q.yd, .inl (cI, 3, .inl (zf gd1))), (moC q 0 (kss9.length : Int) (L.length : Int)), (q.xl, .inl (cI, 200, .inl (zf fl9))), (q.xm, .inl (cI, 7680, .inl (zf fm9))), (q.xz, .inl (cI, 40, .inl (zf fz9)))] := hD
          refine lv_goto (tgt := 163) hx hb dMO_group_159 (by decide) ?_
          exact hret H locs 0 0 163 ls z_156 (fl9, fm9, fz9, kss9, (L.length : Int), fa1, ga1, fb1, gb1, fd1, gd1) ⟨Or.inl ⟨ks, hgk, hn9⟩, hM9⟩ (hP.sub [7, 8, 0, 9, 10, 1, 2, 3, 4, 5, 6] rfl) (hD.sub [7, 8, 0, 9, 10, 1, 2, 3, 4, 5, 6] (by decide) rfl) hS (Nat.zero_le _) (Nat.zero_le _) dMO_group_163
      · refine lv_iload_n hx hb dMO_group_26 rfl (lv_at hl 1 rfl) ?_
        refine lz_if_eq (tgt := 146) hx hb dMO_group_27 (by decide) (by rcases hst with ⟨q, _⟩ | ⟨q, _⟩ <;> omega) (fun c_27 => ?_) (fun c_27 => ?_)
        · refine lv_aload_n hx hb dMO_group_146 rfl (lv_at hl 0 rfl) ?_
          refine lv_iconst (v := iI (0)) hx hb dMO_group_147 rfl ?_
          refine va_put (D := D) (ci := 7) (v := .int (iI 0)) (ty := .int) (C := nMO) (T := fMO) (N := 24) hx hb hts iwMO tMO tkMO nmMO hown hK hP hD hS 0 rfl rfl 5 (by decide) (hts _ (List.mem_cons_of_mem _ lkMO_92)) (fun _ h9 => h9) rfl (by decide +kernel) rfl rfl (Nat.le_of_ble_eq_true rfl) dMO_group_148 (fun H locs hP hD hS => ?_)
          have hP : va_P D vwCl [(moC q 0 (kss.length : Int) (L.length : Int)), (q.xl, .inl (cI, 200, .inl (zf fl1))), (q.xc, .inl (cI, 10, .inl (zf fc))), (q.xm, .inl (cI, 7680, .inl (zf fm))), (q.xz, .inl (cI, 40, .inl (zf fz))), (q.xa, .inl (cI, 9, .inl (zf fa1))), (q.ya, .inl (cI, 3, .inl (zf ga1))), (q.xb, .inl (cI, 9, .inl (zf fb1))), (q.yb, .inl (cI, 3, .inl (zf gb1))), (q.xd, .inl (cI, 9, .inl (zf fd1))), (q.yd, .inl (cI, 3, .inl (zf gd1)))] H := hP
          have hD : va_D A [(moC q 0 (kss.length : Int) (L.length : Int)), (q.xl, .inl (cI, 200, .inl (zf fl1))), (q.xc, .inl (cI, 10, .inl (zf fc))), (q.xm, .inl (cI, 7680, .inl (zf fm))), (q.xz, .inl (cI, 40, .inl (zf fz))), (q.xa, .inl (cI, 9, .inl (zf fa1))), (q.ya, .inl (cI, 3, .inl (zf ga1))), (q.xb, .inl (cI, 9, .inl (zf fb1))), (q.yb, .inl (cI, 3, .inl (zf gb1))), (q.xd, .inl (cI, 9, .inl (zf fd1))), (q.yd, .inl (cI, 3, .inl (zf gd1)))] := hD
          refine lv_iload_n hx hb dMO_group_151 rfl (lv_at hl 1 rfl) ?_
          refine lz_if_eq (tgt := 162) hx hb dMO_group_152 (by decide) (by rcases hst with ⟨q, _⟩ | ⟨q, _⟩ <;> omega) (fun c_152 => ?_) (fun c_152 => ?_)
          · refine lv_iconst (v := iI (-1)) hx hb dMO_group_162 rfl ?_
            exact hret H locs 0 0 163 ls (-1) (fl1, fm, fz, kss, (L.length : Int), fa1, ga1, fb1, gb1, fd1, gd1) ⟨Or.inr ⟨by
                    rcases hst with ⟨q, _⟩ | ⟨_, q⟩
                    · omega
                    · exact q, rfl, rfl⟩, hM⟩ (hP.sub [0, 1, 2, 3, 4, 5, 6, 7, 8, 9, 10] rfl) (hD.sub [0, 1, 2, 3, 4, 5, 6, 7, 8, 9, 10] (by decide) rfl) hS (Nat.zero_le _) (Nat.zero_le _) dMO_group_163
          · obtain ⟨hs1, hB⟩ : st = 1 ∧ BI chs L k := by
              rcases hst with q | ⟨q, _⟩
              · exact q
              · omega
            have hkL : k = L.length := by have := hB.2.2.2.1; omega
            rw [hkL] at hB
            obtain ⟨ks, hgk, hmm, hlk, hgm⟩ := hB.done hL hv
            refine lv_aload_n hx hb dMO_group_155 rfl (lv_at hl 0 rfl) ?_
            refine zI.back (va_runV (As := []) (rest := []) ⟨hx, hb, hml, hown, hts⟩ ((mMO_numbered l D cI cJ cZ q 0 (kss.length : Int) (L.length : Int) fl1 fm fz ks kss (by omega) rfl (by rw [hlk]; exact fset_of he hB.1 hmm) hgm hM) H.size) (cwV 0 hts (gT1 lkMO_110 (gT1 imMO_numbered (gT1 seMO_numbered (gT1 iniMO (gTW kcMO_numbered))))) rfl rfl rfl (by decide +kernel) ⟨Nat.le_of_ble_eq_true rfl, Nat.le_of_ble_eq_true rfl⟩) ⟨zPre_blind, va_recv hK hP (ci := 7) (q0 := 0) rfl rfl, zPre.at (wc := [(moC q 0 (kss.length : Int) (L.length : Int)), (q.xl, .inl (cI, 200, .inl (zf fl1))), (q.xm, .inl (cI, 7680, .inl (zf fm))), (q.xz, .inl (cI, 40, .inl (zf fz)))]) hK hP hD hS hA hX [0, 1, 3, 4] (by decide) rfl⟩ rfl rfl hl.1 rfl (lv_room (Nat.le_of_ble_eq_true rfl)) dMO_group_156 ⟨Nat.le_of_ble_eq_true rfl, Nat.le_of_ble_eq_true rfl⟩) (wr := [(q.xc, .inl (cI, 10, .inl (zf fc))), (q.xa, .inl (cI, 9, .inl (zf fa1))), (q.ya, .inl (cI, 3, .inl (zf ga1))), (q.xb, .inl (cI, 9, .inl (zf fb1))), (q.yb, .inl (cI, 3, .inl (zf gb1))), (q.xd, .inl (cI, 9, .inl (zf fd1))), (q.yd, .inl (cI, 3, .inl (zf gd1)))]) hP hD hS hA [0, 1, 3, 4] [2, 5, 6, 7, 8, 9, 10] rfl rfl (by decide) (by decide) (fun z_156 u_156 H locs q_156 hP hD hS hz_156 hk_156 => ?_)
            obtain ⟨fl9, fm9, fz9, kss9⟩ := u_156
            obtain ⟨hn9, hM9⟩ := q_156
            have hP : va_P D vwCl [(q.xc, .inl (cI, 10, .inl (zf fc))), (q.xa, .inl (cI, 9, .inl (zf fa1))), (q.ya, .inl (cI, 3, .inl (zf ga1))), (q.xb, .inl (cI, 9, .inl (zf fb1))), (q.yb, .inl (cI, 3, .inl (zf gb1))), (q.xd, .inl (cI, 9, .inl (zf fd1))), (q.yd, .inl (cI, 3, .inl (zf gd1))), (moC q 0 (kss9.length : Int) (L.length : Int)), (q.xl, .inl (cI, 200, .inl (zf fl9))), (q.xm, .inl (cI, 7680, .inl (zf fm9))), (q.xz, .inl (cI, 40, .inl (zf fz9)))] H := hP
            have hD : va_D A [(q.xc, .inl (cI, 10, .inl (zf fc))), (q.xa, .inl (cI, 9, .inl (zf fa1))), (q.ya, .inl (cI, 3, .inl (zf ga1))), (q.xb, .inl (cI, 9, .inl (zf fb1))), (q.yb, .inl (cI, 3, .inl (zf gb1))), (q.xd, .inl (cI, 9, .inl (zf fd1))), (q.yd, .inl (cI, 3, .inl (zf gd1))), (moC q 0 (kss9.length : Int) (L.length : Int)), (q.xl, .inl (cI, 200, .inl (zf fl9))), (q.xm, .inl (cI, 7680, .inl (zf fm9))), (q.xz, .inl (cI, 40, .inl (zf fz9)))] := hD
            refine lv_goto (tgt := 163) hx hb dMO_group_159 (by decide) ?_
            exact hret H locs 0 0 163 ls z_156 (fl9, fm9, fz9, kss9, (L.length : Int), fa1, ga1, fb1, gb1, fd1, gd1) ⟨Or.inl ⟨ks, hgk, hn9⟩, hM9⟩ (hP.sub [7, 8, 0, 9, 10, 1, 2, 3, 4, 5, 6] rfl) (hD.sub [7, 8, 0, 9, 10, 1, 2, 3, 4, 5, 6] (by decide) rfl) hS (Nat.zero_le _) (Nat.zero_le _) dMO_group_163
        · refine lv_iconst (v := iI (0)) hx hb dMO_group_30 rfl ?_
          refine lv_istore_n (lv' := [(3, .int (iI 0)), (0, .ref q.mo), (1, .int (iI st)), (2, .int (iI (k : Int)))]) hx hb dMO_group_31 rfl hl (by decide) rfl (fun ls hl => ?_)
          have lp32 : ∀ (n9 : Nat) (i : Nat) (L2 : List Int) (st2 : Int) (fl2 fa2 ga2 fb2 gb2 fd2 gd2 : Nat → Int), (L2.length ≤ 192) → (emb fl2 0 L2) → (∀ x ∈ L2, vOK x) → ((st2 = 1 ∧ BI chs L2 k ∧ k < L2.length ∧ ∀ t, t < i → timesK (L2.getD k (-1)) (chs.getD t (-1)) ∈ L2) ∨ (st2 = 0 ∧ ¬ ∃ ks, genOK chs ks)) → (i ≤ chs.length) → (chs.length - i) < n9 → ∀ (H : Heap) (locs : List Loc), va_P D vwCl [(moC q (chs.length : Int) (kss.length : Int) (L2.length : Int)), (q.xl, .inl (cI, 200, .inl (zf fl2))), (q.xc, .inl (cI, 10, .inl (zf fc))), (q.xm, .inl (cI, 7680, .inl (zf fm))), (q.xz, .inl (cI, 40, .inl (zf fz))), (q.xa, .inl (cI, 9, .inl (zf fa2))), (q.ya, .inl (cI, 3, .inl (zf ga2))), (q.xb, .inl (cI, 9, .inl (zf fb2))), (q.yb, .inl (cI, 3, .inl (zf gb2))), (q.xd, .inl (cI, 9, .inl (zf fd2))), (q.yd, .inl (cI, 3, .inl (zf gd2)))] H → va_D A [(moC q (chs.length : Int) (kss.length : Int) (L2.length : Int)), (q.xl, .inl (cI, 200, .inl (zf fl2))), (q.xc, .inl (cI, 10, .inl (zf fc))), (q.xm, .inl (cI, 7680, .inl (zf fm))), (q.xz, .inl (cI, 40, .inl (zf fz))), (q.xa, .inl (cI, 9, .inl (zf fa2))), (q.ya, .inl (cI, 3, .inl (zf ga2))), (q.xb, .inl (cI, 9, .inl (zf fb2))), (q.yb, .inl (cI, 3, .inl (zf gb2))), (q.xd, .inl (cI, 9, .inl (zf fd2))), (q.yd, .inl (cI, 3, .inl (zf gd2)))] → va_S A s.heap H locs → ∀ (ls : Array Slot), lv_has ls 5 [(0, .ref q.mo), (1, .int (iI st2)), (2, .int (iI (k : Int))), (3, .int (iI (i : Int)))] → W p l e (headSpec wMO_group rmMO_group).room s m args below meth c H locs 0 0 Q (F0 m 32 ls []) := by
            intro n9
            induction n9 with
            | zero => intro i L2 st2 fl2 fa2 ga2 fb2 gb2 fd2 gd2 hL2 he2 hLv2 hst2 hi3 hm; exact absurd hm (Nat.not_lt_zero _)
            | succ n9 ih32 =>
              intro i L2 st2 fl2 fa2 ga2 fb2 gb2 fd2 gd2 hL2 he2 hLv2 hst2 hi3 hm32 H locs hP hD hS ls hl
              refine lv_iload_n hx hb dMO_group_32 rfl (lv_at hl 3 rfl) ?_
              refine lv_aload_n hx hb dMO_group_33 rfl (lv_at hl 0 rfl) ?_
              refine va_get (D := D) (ci := 7) (v := .int (iI (chs.length : Int))) (C := nMO) (T := fMO) (N := 24) hx hb hts iwMO hown hK hP 0 rfl rfl 5 (by decide) (hts _ (List.mem_cons_of_mem _ lkMO_92)) (fun _ h9 => h9) rfl dMO_group_34 ?_
              refine lz_icmp_ge (tgt := 140) hx hb dMO_group_37 (by decide) (by omega) (by omega) (fun c_37 => ?_) (fun c_37 => ?_)
              · refine lz_iinc (lv' := [(2, .int (iI ((k : Int) + 1))), (0, .ref q.mo), (1, .int (iI st2)), (3, .int (iI (i : Int)))]) hx hb dMO_group_140 hl (k := 2) rfl (by decide) rfl (fun ls hl => ?_)
                refine lv_goto (tgt := 18) hx hb dMO_group_143 (by decide) ?_
                exact ih18 (k + 1) L2 st2 fl2 fa2 ga2 fb2 gb2 fd2 gd2 hL2 he2 hLv2 (by
                    rcases hst2 with ⟨q1, q2, q3, q4⟩ | q
                    · refine Or.inl ⟨q1, q2.next q3 (fun t ht => q4 t ?_)⟩
                      first | omega | (exfalso; omega)
                    · exact Or.inr q) (by omega) (by omega) _ _ (hP.sub [0, 1, 2, 3, 4, 5, 6, 7, 8, 9, 10] rfl) (hD.sub [0, 1, 2, 3, 4, 5, 6, 7, 8, 9, 10] (by decide) rfl) hS _ (lv_sub hl [1, 2, 0] rfl)
              · refine lv_iload_n hx hb dMO_group_40 rfl (lv_at hl 1 rfl) ?_
                refine lz_if_eq (tgt := 140) hx hb dMO_group_41 (by decide) (by rcases hst2 with ⟨q, _⟩ | ⟨q, _⟩ <;> omega) (fun c_41 => ?_) (fun c_41 => ?_)
                · refine lz_iinc (lv' := [(2, .int (iI ((k : Int) + 1))), (0, .ref q.mo), (1, .int (iI st2)), (3, .int (iI (i : Int)))]) hx hb dMO_group_140 hl (k := 2) rfl (by decide) rfl (fun ls hl => ?_)
                  refine lv_goto (tgt := 18) hx hb dMO_group_143 (by decide) ?_
                  exact ih18 (k + 1) L2 st2 fl2 fa2 ga2 fb2 gb2 fd2 gd2 hL2 he2 hLv2 (by
                      rcases hst2 with ⟨q1, q2, q3, q4⟩ | q
                      · refine Or.inl ⟨q1, q2.next q3 (fun t ht => q4 t ?_)⟩
                        first | omega | (exfalso; omega)
                      · exact Or.inr q) (by omega) (by omega) _ _ (hP.sub [0, 1, 2, 3, 4, 5, 6, 7, 8, 9, 10] rfl) (hD.sub [0, 1, 2, 3, 4, 5, 6, 7, 8, 9, 10] (by decide) rfl) hS _ (lv_sub hl [1, 2, 0] rfl)
                · obtain ⟨hs1, hB2, hkl2, ht2⟩ : st2 = 1 ∧ BI chs L2 k ∧ k < L2.length ∧ ∀ t, t < i → timesK (L2.getD k (-1)) (chs.getD t (-1)) ∈ L2 := by
                    rcases hst2 with q | ⟨q, _⟩
                    · exact q
                    · omega
                  have hxk := getD_mem hkl2
                  have hai := getD_mem (ks := chs) (j := i) (by omega)
                  refine lv_aload_n hx hb dMO_group_44 rfl (lv_at hl 0 rfl) ?_
                  refine lv_aload_n hx hb dMO_group_45 rfl (lv_at hl 0 rfl) ?_
                  refine va_get (D := D) (ci := 7) (v := .ref q.xl) (C := nMO) (T := fMO) (N := 24) hx hb hts iwMO hown hK hP 0 rfl rfl 9 (by decide) (hts _ (List.mem_cons_of_mem _ lkMO_31)) (fun _ h9 => h9) rfl dMO_group_46 ?_
                  refine lv_iload_n hx hb dMO_group_49 rfl (lv_at hl 2 rfl) ?_
                  refine lz_ialk hx hb hK hP 1 0 rfl rfl (z := (k : Int)) k rfl (by omega) dMO_group_50 ?_
                  refine lz_as (x := fl2 k) (y := L2.getD k (-1)) (by have := he2 k (by omega); rw [Nat.zero_add] at this; exact this) ?_
                  refine lv_aload_n hx hb dMO_group_51 rfl (lv_at hl 0 rfl) ?_
                  refine va_get (D := D) (ci := 7) (v := .ref q.xc) (C := nMO) (T := fMO) (N := 24) hx hb hts iwMO hown hK hP 0 rfl rfl 4 (by decide) (hts _ (List.mem_cons_of_mem _ lkMO_22)) (fun _ h9 => h9) rfl dMO_group_52 ?_
                  refine lv_iload_n hx hb dMO_group_55 rfl (lv_at hl 3 rfl) ?_
                  refine lz_ialk hx hb hK hP 2 0 rfl rfl (z := (i : Int)) i rfl (by omega) dMO_group_56 ?_
                  refine lz_as (x := fc i) (y := chs.getD i (-1)) (by have := hce i (by omega); rw [Nat.zero_add] at this; exact this) ?_
                  refine zI.back (va_runV (As := [.int (iI (L2.getD k (-1))), .int (iI (chs.getD i (-1)))]) (rest := []) ⟨hx, hb, hml, hown, hts⟩ ((mMO_times l D cI cJ cZ q (chs.length : Int) (kss.length : Int) (L2.length : Int) (L2.getD k (-1)) (chs.getD i (-1)) fa2 ga2 fb2 gb2 fd2 gd2 (hLv2 _ hxk).1 (hv _ hai).1) H.size) (cwV 2 hts (gT1 lkMO_102 (gT1 imMO_times (gT1 seMO_times (gT1 iniMO (gTW kcMO_times))))) rfl rfl rfl (by decide +kernel) ⟨Nat.le_of_ble_eq_true rfl, Nat.le_of_ble_eq_true rfl⟩) ⟨zPre_blind, va_recv hK hP (ci := 7) (q0 := 0) rfl rfl, zPre.at (wc := [(moC q (chs.length : Int) (kss.length : Int) (L2.length : Int)), (q.xa, .inl (cI, 9, .inl (zf fa2))), (q.ya, .inl (cI, 3, .inl (zf ga2))), (q.xb, .inl (cI, 9, .inl (zf fb2))), (q.yb, .inl (cI, 3, .inl (zf gb2))), (q.xd, .inl (cI, 9, .inl (zf fd2))), (q.yd, .inl (cI, 3, .inl (zf gd2)))]) hK hP hD hS hA hX [0, 5, 6, 7, 8, 9, 10] (by decide) rfl⟩ rfl rfl hl.1 rfl (lv_room (Nat.le_of_ble_eq_true rfl)) dMO_group_57 ⟨Nat.le_of_ble_eq_true rfl, Nat.le_of_ble_eq_true rfl⟩) (wr := [(q.xl, .inl (cI, 200, .inl (zf fl2))), (q.xc, .inl (cI, 10, .inl (zf fc))), (q.xm, .inl (cI, 7680, .inl (zf fm))), (q.xz, .inl (cI, 40, .inl (zf fz)))]) hP hD hS hA [0, 5, 6, 7, 8, 9, 10] [1, 2, 3, 4] rfl rfl (by decide) (by decide) (fun z_57 u_57 H locs q_57 hP hD hS hz_57 hk_57 => ?_)
                  obtain ⟨fa3, ga3, fb3, gb3, fd3, gd3⟩ := u_57
                  obtain rfl : z_57 = timesK (L2.getD k (-1)) (chs.getD i (-1)) := q_57
                  have hP : va_P D vwCl [(q.xl, .inl (cI, 200, .inl (zf fl2))), (q.xc, .inl (cI, 10, .inl (zf fc))), (q.xm, .inl (cI, 7680, .inl (zf fm))), (q.xz, .inl (cI, 40, .inl (zf fz))), (moC q (chs.length : Int) (kss.length : Int) (L2.length : Int)), (q.xa, .inl (cI, 9, .inl (zf fa3))), (q.ya, .inl (cI, 3, .inl (zf ga3))), (q.xb, .inl (cI, 9, .inl (zf fb3))), (q.yb, .inl (cI, 3, .inl (zf gb3))), (q.xd, .inl (cI, 9, .inl (zf fd3))), (q.yd, .inl (cI, 3, .inl (zf gd3)))] H := hP
                  have hD : va_D A [(q.xl, .inl (cI, 200, .inl (zf fl2))), (q.xc, .inl (cI, 10, .inl (zf fc))), (q.xm, .inl (cI, 7680, .inl (zf fm))), (q.xz, .inl (cI, 40, .inl (zf fz))), (moC q (chs.length : Int) (kss.length : Int) (L2.length : Int)), (q.xa, .inl (cI, 9, .inl (zf fa3))), (q.ya, .inl (cI, 3, .inl (zf ga3))), (q.xb, .inl (cI, 9, .inl (zf fb3))), (q.yb, .inl (cI, 3, .inl (zf gb3))), (q.xd, .inl (cI, 9, .inl (zf fd3))), (q.yd, .inl (cI, 3, .inl (zf gd3)))] := hD
                  refine lv_istore (lv' := [(4, .int (iI (timesK (L2.getD k (-1)) (chs.getD i (-1))))), (0, .ref q.mo), (1, .int (iI st2)), (2, .int (iI (k : Int))), (3, .int (iI (i : Int)))]) hx hb dMO_group_60 hl (by decide) rfl (fun ls hl => ?_)
                  refine lv_iload hx hb dMO_group_62 (lv_at hl 0 rfl) ?_
                  refine lv_iconst (v := iI (-1)) hx hb dMO_group_64 rfl ?_
                  refine lz_icmp_eq (tgt := 72) hx hb dMO_group_65 (by decide) (by have := times_bd (L2.getD k (-1)) (chs.getD i (-1)); omega) (by omega) (fun c_65 => ?_) (fun c_65 => ?_)
                  · refine lv_iconst (v := iI (0)) hx hb dMO_group_72 rfl ?_
                    refine lv_istore_n (lv' := [(1, .int (iI 0)), (4, .int (iI (timesK (L2.getD k (-1)) (chs.getD i (-1))))), (0, .ref q.mo), (2, .int (iI (k : Int))), (3, .int (iI (i : Int)))]) hx hb dMO_group_73 rfl hl (by decide) rfl (fun ls hl => ?_)
                    refine lv_iload_n hx hb dMO_group_74 rfl (lv_at hl 0 rfl) ?_
                    refine lz_if_eq (tgt := 134) hx hb dMO_group_75 (by decide) (by omega) (fun c_75 => ?_) (fun c_75 => ?_)
                    · refine lz_iinc (lv' := [(3, .int (iI ((i : Int) + 1))), (1, .int (iI 0)), (4, .int (iI (timesK (L2.getD k (-1)) (chs.getD i (-1))))), (0, .ref q.mo), (2, .int (iI (k : Int)))]) hx hb dMO_group_134 hl (k := 4) rfl (by decide) rfl (fun ls hl => ?_)
                      refine lv_goto (tgt := 32) hx hb dMO_group_137 (by decide) ?_
                      exact ih32 (i + 1) L2 0 fl2 fa3 ga3 fb3 gb3 fd3 gd3 hL2 he2 hLv2 (Or.inr ⟨rfl, by first | exact hB2.no1 hxk hai c_65 | exact hB2.no2 (by omega) hxk hai c_65 hnl⟩) (by omega) (by omega) _ _ (hP.sub [4, 0, 1, 2, 3, 5, 6, 7, 8, 9, 10] rfl) (hD.sub [4, 0, 1, 2, 3, 5, 6, 7, 8, 9, 10] (by decide) rfl) hS _ (lv_sub hl [3, 1, 4, 0] rfl)
                    · exact absurd c_75 (by omega)
                  · refine lv_iconst (v := iI (1)) hx hb dMO_group_68 rfl ?_
                    refine lv_goto (tgt := 73) hx hb dMO_group_69 (by decide) ?_
                    refine lv_istore_n (lv' := [(1, .int (iI 1)), (4, .int (iI (timesK (L2.getD k (-1)) (chs.getD i (-1))))), (0, .ref q.mo), (2, .int (iI (k : Int))), (3, .int (iI (i : Int)))]) hx hb dMO_group_73 rfl hl (by decide) rfl (fun ls hl => ?_)
                    refine lv_iload_n hx hb dMO_group_74 rfl (lv_at hl 0 rfl) ?_
                    refine lz_if_eq (tgt := 134) hx hb dMO_group_75 (by decide) (by omega) (fun c_75 => ?_) (fun c_75 => ?_)
                    · exact absurd c_75 (by omega)
                    · refine lv_aload_n hx hb dMO_group_78 rfl (lv_at hl 2 rfl) ?_
                      refine lv_iload hx hb dMO_group_79 (lv_at hl 1 rfl) ?_
                      refine zRI.back ((va_runV (As := [.int (iI (timesK (L2.getD k (-1)) (chs.getD i (-1))))]) (rest := []) ⟨hx, hb, hml, hown, hts⟩ (mMO_isListed l D cI cJ cZ q (chs.length : Int) (kss.length : Int) (L2.length : Int) (timesK (L2.getD k (-1)) (chs.getD i (-1))) fl2 L2 rfl hL2 he2 (fun x hx => by have := (hLv2 x hx).1; unfold kOK at this; omega) (by have := times_bd (L2.getD k (-1)) (chs.getD i (-1)); omega)) (cwV 1 hts (gT1 lkMO_106 (gT1 imMO_isListed (gT1 seMO_isListed (gT1 iniMO (gTW kcMO_isListed))))) rfl rfl rfl (by decide +kernel) ⟨Nat.le_of_ble_eq_true rfl, Nat.le_of_ble_eq_true rfl⟩) ⟨zRd_blind, va_recv hK hP (ci := 7) (q0 := 4) rfl rfl, zRd.at (wc := [(moC q (chs.length : Int) (kss.length : Int) (L2.length : Int)), (q.xl, .inl (cI, 200, .inl (zf fl2)))]) hK (hP.sub (ws' := [(moC q (chs.length : Int) (kss.length : Int) (L2.length : Int)), (q.xl, .inl (cI, 200, .inl (zf fl2)))]) [4, 0] rfl) (stF.now hX hS)⟩ rfl rfl hl.1 rfl (lv_room (Nat.le_of_ble_eq_true rfl)) dMO_group_81 ⟨Nat.le_of_ble_eq_true rfl, Nat.le_of_ble_eq_true rfl⟩).run) (fun z_81 q_81 => ?_)
                      refine lz_if_eq (tgt := 90) hx hb dMO_group_84 (by decide) (by rcases q_81 with ⟨q, _⟩ | ⟨q, _⟩ <;> omega) (fun c_84 => ?_) (fun c_84 => ?_)
                      · have hnl : timesK (L2.getD k (-1)) (chs.getD i (-1)) ∉ L2 := by rcases q_81 with ⟨q, _⟩ | ⟨_, q⟩ <;> first | exact q | omega
                        refine lv_aload_n hx hb dMO_group_90 rfl (lv_at hl 2 rfl) ?_
                        refine va_get (D := D) (ci := 7) (v := .int (iI (L2.length : Int))) (C := nMO) (T := fMO) (N := 24) hx hb hts iwMO hown hK hP 4 rfl rfl 10 (by decide) (hts _ (List.mem_cons_of_mem _ lkMO_95)) (fun _ h9 => h9) rfl dMO_group_91 ?_
                        refine lv_sipush (v := iI (192)) hx hb dMO_group_94 (by decide) ?_
                        refine lz_icmp_ge (tgt := 104) hx hb dMO_group_97 (by decide) (by omega) (by omega) (fun c_97 => ?_) (fun c_97 => ?_)
                        · refine lv_iconst (v := iI (0)) hx hb dMO_group_104 rfl ?_
                          refine lv_istore_n (lv' := [(1, .int (iI 0)), (4, .int (iI (timesK (L2.getD k (-1)) (chs.getD i (-1))))), (0, .ref q.mo), (2, .int (iI (k : Int))), (3, .int (iI (i : Int)))]) hx hb dMO_group_105 rfl hl (by decide) rfl (fun ls hl => ?_)
                          refine lv_iload_n hx hb dMO_group_106 rfl (lv_at hl 0 rfl) ?_
                          refine lz_if_ne (tgt := 113) hx hb dMO_group_107 (by decide) (by omega) (fun c_107 => ?_) (fun c_107 => ?_)
                          · exact absurd c_107 (by omega)
                          · refine lv_goto (tgt := 134) hx hb dMO_group_110 (by decide) ?_
                            refine lz_iinc (lv' := [(3, .int (iI ((i : Int) + 1))), (1, .int (iI 0)), (4, .int (iI (timesK (L2.getD k (-1)) (chs.getD i (-1))))), (0, .ref q.mo), (2, .int (iI (k : Int)))]) hx hb dMO_group_134 hl (k := 4) rfl (by decide) rfl (fun ls hl => ?_)
                            refine lv_goto (tgt := 32) hx hb dMO_group_137 (by decide) ?_
                            exact ih32 (i + 1) L2 0 fl2 fa3 ga3 fb3 gb3 fd3 gd3 hL2 he2 hLv2 (Or.inr ⟨rfl, by first | exact hB2.no1 hxk hai c_65 | exact hB2.no2 (by omega) hxk hai c_65 hnl⟩) (by omega) (by omega) _ _ (hP.sub [4, 0, 1, 2, 3, 5, 6, 7, 8, 9, 10] rfl) (hD.sub [4, 0, 1, 2, 3, 5, 6, 7, 8, 9, 10] (by decide) rfl) hS _ (lv_sub hl [3, 1, 4, 0] rfl)
                        · refine lv_iconst (v := iI (1)) hx hb dMO_group_100 rfl ?_
                          refine lv_goto (tgt := 105) hx hb dMO_group_101 (by decide) ?_
                          refine lv_istore_n (lv' := [(1, .int (iI 1)), (4, .int (iI (timesK (L2.getD k (-1)) (chs.getD i (-1))))), (0, .ref q.mo), (2, .int (iI (k : Int))), (3, .int (iI (i : Int)))]) hx hb dMO_group_105 rfl hl (by decide) rfl (fun ls hl => ?_)
                          refine lv_iload_n hx hb dMO_group_106 rfl (lv_at hl 0 rfl) ?_
                          refine lz_if_ne (tgt := 113) hx hb dMO_group_107 (by decide) (by omega) (fun c_107 => ?_) (fun c_107 => ?_)
                          · refine lv_aload_n hx hb dMO_group_113 rfl (lv_at hl 2 rfl) ?_
                            refine va_get (D := D) (ci := 7) (v := .ref q.xl) (C := nMO) (T := fMO) (N := 24) hx hb hts iwMO hown hK hP 4 rfl rfl 9 (by decide) (hts _ (List.mem_cons_of_mem _ lkMO_31)) (fun _ h9 => h9) rfl dMO_group_114 ?_
                            refine lv_aload_n hx hb dMO_group_117 rfl (lv_at hl 2 rfl) ?_
                            refine va_get (D := D) (ci := 7) (v := .int (iI (L2.length : Int))) (C := nMO) (T := fMO) (N := 24) hx hb hts iwMO hown hK hP 4 rfl rfl 10 (by decide) (hts _ (List.mem_cons_of_mem _ lkMO_95)) (fun _ h9 => h9) rfl dMO_group_118 ?_
                            refine lv_iload hx hb dMO_group_121 (lv_at hl 1 rfl) ?_
                            refine lz_iask hx hb hK hP hD hS 0 0 rfl rfl (z := (L2.length : Int)) (v := timesK (L2.getD k (-1)) (chs.getD i (-1))) L2.length rfl (by omega) dMO_group_123 (fun H locs hP hD hS => ?_)
                            have hP : va_P D vwCl [(q.xl, .inl (cI, 200, .inl (zf (zu fl2 L2.length (timesK (L2.getD k (-1)) (chs.getD i (-1))))))), (q.xc, .inl (cI, 10, .inl (zf fc))), (q.xm, .inl (cI, 7680, .inl (zf fm))), (q.xz, .inl (cI, 40, .inl (zf fz))), (moC q (chs.length : Int) (kss.length : Int) (L2.length : Int)), (q.xa, .inl (cI, 9, .inl (zf fa3))), (q.ya, .inl (cI, 3, .inl (zf ga3))), (q.xb, .inl (cI, 9, .inl (zf fb3))), (q.yb, .inl (cI, 3, .inl (zf gb3))), (q.xd, .inl (cI, 9, .inl (zf fd3))), (q.yd, .inl (cI, 3, .inl (zf gd3)))] H := hP
                            have hD : va_D A [(q.xl, .inl (cI, 200, .inl (zf (zu fl2 L2.length (timesK (L2.getD k (-1)) (chs.getD i (-1))))))), (q.xc, .inl (cI, 10, .inl (zf fc))), (q.xm, .inl (cI, 7680, .inl (zf fm))), (q.xz, .inl (cI, 40, .inl (zf fz))), (moC q (chs.length : Int) (kss.length : Int) (L2.length : Int)), (q.xa, .inl (cI, 9, .inl (zf fa3))), (q.ya, .inl (cI, 3, .inl (zf ga3))), (q.xb, .inl (cI, 9, .inl (zf fb3))), (q.yb, .inl (cI, 3, .inl (zf gb3))), (q.xd, .inl (cI, 9, .inl (zf fd3))), (q.yd, .inl (cI, 3, .inl (zf gd3)))] := hD
                            refine lv_aload_n hx hb dMO_group_124 rfl (lv_at hl 2 rfl) ?_
                            refine lv_dup hx hb dMO_group_125 rfl ?_
                            refine va_get (D := D) (ci := 7) (v := .int (iI (L2.length : Int))) (C := nMO) (T := fMO) (N := 24) hx hb hts iwMO hown hK hP 4 rfl rfl 10 (by decide) (hts _ (List.mem_cons_of_mem _ lkMO_95)) (fun _ h9 => h9) rfl dMO_group_126 ?_
                            refine lv_iconst (v := iI (1)) hx hb dMO_group_129 rfl ?_
                            refine lz_iadd hx hb dMO_group_130 ?_
                            refine va_put (D := D) (ci := 7) (v := .int (iI ((L2.length : Int) + 1))) (ty := .int) (C := nMO) (T := fMO) (N := 24) hx hb hts iwMO tMO tkMO nmMO hown hK hP hD hS 4 rfl rfl 10 (by decide) (hts _ (List.mem_cons_of_mem _ lkMO_95)) (fun _ h9 => h9) rfl (by decide +kernel) rfl rfl (Nat.le_of_ble_eq_true rfl) dMO_group_131 (fun H locs hP hD hS => ?_)
                            have hP : va_P D vwCl [(q.xl, .inl (cI, 200, .inl (zf (zu fl2 L2.length (timesK (L2.getD k (-1)) (chs.getD i (-1))))))), (q.xc, .inl (cI, 10, .inl (zf fc))), (q.xm, .inl (cI, 7680, .inl (zf fm))), (q.xz, .inl (cI, 40, .inl (zf fz))), (moC q (chs.length : Int) (kss.length : Int) ((L2.length : Int) + 1)), (q.xa, .inl (cI, 9, .inl (zf fa3))), (q.ya, .inl (cI, 3, .inl (zf ga3))), (q.xb, .inl (cI, 9, .inl (zf fb3))), (q.yb, .inl (cI, 3, .inl (zf gb3))), (q.xd, .inl (cI, 9, .inl (zf fd3))), (q.yd, .inl (cI, 3, .inl (zf gd3)))] H := hP
                            have hD : va_D A [(q.xl, .inl (cI, 200, .inl (zf (zu fl2 L2.length (timesK (L2.getD k (-1)) (chs.getD i (-1))))))), (q.xc, .inl (cI, 10, .inl (zf fc))), (q.xm, .inl (cI, 7680, .inl (zf fm))), (q.xz, .inl (cI, 40, .inl (zf fz))), (moC q (chs.length : Int) (kss.length : Int) ((L2.length : Int) + 1)), (q.xa, .inl (cI, 9, .inl (zf fa3))), (q.ya, .inl (cI, 3, .inl (zf ga3))), (q.xb, .inl (cI, 9, .inl (zf fb3))), (q.yb, .inl (cI, 3, .inl (zf gb3))), (q.xd, .inl (cI, 9, .inl (zf fd3))), (q.yd, .inl (cI, 3, .inl (zf gd3)))] := hD
                            rw [show (L2.length : Int) + 1 = ((L2 ++ [timesK (L2.getD k (-1)) (chs.getD i (-1))]).length : Int) by rw [len_snoc]; rfl] at hP hD
                            have hP : va_P D vwCl [(q.xl, .inl (cI, 200, .inl (zf (zu fl2 L2.length (timesK (L2.getD k (-1)) (chs.getD i (-1))))))), (q.xc, .inl (cI, 10, .inl (zf fc))), (q.xm, .inl (cI, 7680, .inl (zf fm))), (q.xz, .inl (cI, 40, .inl (zf fz))), (moC q (chs.length : Int) (kss.length : Int) ((L2 ++ [timesK (L2.getD k (-1)) (chs.getD i (-1))]).length : Int)), (q.xa, .inl (cI, 9, .inl (zf fa3))), (q.ya, .inl (cI, 3, .inl (zf ga3))), (q.xb, .inl (cI, 9, .inl (zf fb3))), (q.yb, .inl (cI, 3, .inl (zf gb3))), (q.xd, .inl (cI, 9, .inl (zf fd3))), (q.yd, .inl (cI, 3, .inl (zf gd3)))] H := hP
                            have hD : va_D A [(q.xl, .inl (cI, 200, .inl (zf (zu fl2 L2.length (timesK (L2.getD k (-1)) (chs.getD i (-1))))))), (q.xc, .inl (cI, 10, .inl (zf fc))), (q.xm, .inl (cI, 7680, .inl (zf fm))), (q.xz, .inl (cI, 40, .inl (zf fz))), (moC q (chs.length : Int) (kss.length : Int) ((L2 ++ [timesK (L2.getD k (-1)) (chs.getD i (-1))]).length : Int)), (q.xa, .inl (cI, 9, .inl (zf fa3))), (q.ya, .inl (cI, 3, .inl (zf ga3))), (q.xb, .inl (cI, 9, .inl (zf fb3))), (q.yb, .inl (cI, 3, .inl (zf gb3))), (q.xd, .inl (cI, 9, .inl (zf fd3))), (q.yd, .inl (cI, 3, .inl (zf gd3)))] := hD
                            refine lz_iinc (lv' := [(3, .int (iI ((i : Int) + 1))), (1, .int (iI 1)), (4, .int (iI (timesK (L2.getD k (-1)) (chs.getD i (-1))))), (0, .ref q.mo), (2, .int (iI (k : Int)))]) hx hb dMO_group_134 hl (k := 4) rfl (by decide) rfl (fun ls hl => ?_)
                            refine lv_goto (tgt := 32) hx hb dMO_group_137 (by decide) ?_
                            exact ih32 (i + 1) (L2 ++ [timesK (L2.getD k (-1)) (chs.getD i (-1))]) 1 (zu fl2 L2.length (timesK (L2.getD k (-1)) (chs.getD i (-1)))) fa3 ga3 fb3 gb3 fd3 gd3 (by rw [len_snoc]; omega) (by have := emb_snoc (v := timesK (L2.getD k (-1)) (chs.getD i (-1))) he2 rfl; rw [Nat.zero_add] at this; exact this) (fun x hx => (List.mem_append.mp hx).elim (fun q => hLv2 x q) (fun q => by rw [List.mem_singleton.mp q]; exact vOK_times (hLv2 _ hxk) (hv _ hai) c_65)) (Or.inl ⟨rfl, hB2.push hv hxk hai c_65 hnl, by rw [len_snoc]; omega, fun t ht => by
                                rw [getD_snoc_l hkl2]
                                rcases Nat.lt_or_ge t i with q | q
                                · exact List.mem_append_left _ (ht2 t q)
                                · obtain rfl : t = i := by omega
                                  exact List.mem_append_right _ (List.mem_singleton.mpr rfl)⟩) (by omega) (by omega) _ _ (hP.sub [4, 0, 1, 2, 3, 5, 6, 7, 8, 9, 10] rfl) (hD.sub [4, 0, 1, 2, 3, 5, 6, 7, 8, 9, 10] (by decide) rfl) hS _ (lv_sub hl [3, 1, 4, 0] rfl)
                          · exact absurd c_107 (by omega)
                      · have hyl : timesK (L2.getD k (-1)) (chs.getD i (-1)) ∈ L2 := by rcases q_81 with ⟨_, q⟩ | ⟨q, _⟩ <;> first | exact q | omega
                        refine lv_goto (tgt := 134) hx hb dMO_group_87 (by decide) ?_
                        refine lz_iinc (lv' := [(3, .int (iI ((i : Int) + 1))), (1, .int (iI 1)), (4, .int (iI (timesK (L2.getD k (-1)) (chs.getD i (-1))))), (0, .ref q.mo), (2, .int (iI (k : Int)))]) hx hb dMO_group_134 hl (k := 4) rfl (by decide) rfl (fun ls hl => ?_)
                        refine lv_goto (tgt := 32) hx hb dMO_group_137 (by decide) ?_
                        exact ih32 (i + 1) L2 1 fl2 fa3 ga3 fb3 gb3 fd3 gd3 hL2 he2 hLv2 (Or.inl ⟨rfl, hB2, hkl2, fun t ht => by
                            rcases Nat.lt_or_ge t i with q | q
                            · exact ht2 t q
                            · obtain rfl : t = i := by omega
                              exact hyl⟩) (by omega) (by omega) _ _ (hP.sub [4, 0, 1, 2, 3, 5, 6, 7, 8, 9, 10] rfl) (hD.sub [4, 0, 1, 2, 3, 5, 6, 7, 8, 9, 10] (by decide) rfl) hS _ (lv_sub hl [3, 1, 4, 0] rfl)
          exact lp32 _ 0 L st fl1 fa1 ga1 fb1 gb1 fd1 gd1 hL he hLv (by
              rcases hst with ⟨q1, q2⟩ | q
              · exact Or.inl ⟨q1, q2, by omega, fun t ht => absurd ht (Nat.not_lt_zero _)⟩
              · exact Or.inr q) (Nat.zero_le _) (Nat.lt_succ_self _) _ _ (hP.sub [0, 1, 2, 3, 4, 5, 6, 7, 8, 9, 10] rfl) (hD.sub [0, 1, 2, 3, 4, 5, 6, 7, 8, 9, 10] (by decide) rfl) hS _ (lv_sub hl [1, 2, 3, 0] rfl)
  exact lp18 _ 0 ([u0]) 1 (zu fl 0 u0) fa ga fb gb fd gd (by decide) (fun j hj => by
      have hj0 : j = 0 := by have : j < 1 := hj; omega
      subst hj0
      rfl) (fun x hx => by rw [List.mem_singleton.mp hx]; exact u0_v) (Or.inl ⟨rfl, BI.start chs⟩) (by decide) (Nat.lt_succ_self _) _ _ (hP.sub [0, 1, 2, 3, 4, 5, 6, 7, 8, 9, 10] rfl) (hD.sub [0, 1, 2, 3, 4, 5, 6, 7, 8, 9, 10] (by decide) rfl) hS _ (lv_sub hl [2, 1, 0] rfl)
