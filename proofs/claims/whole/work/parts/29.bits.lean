/-! bits: written by wip/whole/genbits.py -/
theorem dJI_bitCount_0 : decode cJI_bitCount 0 = .ok (.iload_n 0, 1) := by decide +kernel
theorem dJI_bitCount_1 : decode cJI_bitCount 1 = .ok (.iload_n 0, 1) := by decide +kernel
theorem dJI_bitCount_2 : decode cJI_bitCount 2 = .ok (.iconst 1, 1) := by decide +kernel
theorem dJI_bitCount_3 : decode cJI_bitCount 3 = .ok (.iushr, 1) := by decide +kernel
theorem dJI_bitCount_4 : decode cJI_bitCount 4 = .ok (.ldc_w 265, 3) := by decide +kernel
theorem dJI_bitCount_7 : decode cJI_bitCount 7 = .ok (.iand, 1) := by decide +kernel
theorem dJI_bitCount_8 : decode cJI_bitCount 8 = .ok (.isub, 1) := by decide +kernel
theorem dJI_bitCount_9 : decode cJI_bitCount 9 = .ok (.istore_n 0, 1) := by decide +kernel
theorem dJI_bitCount_10 : decode cJI_bitCount 10 = .ok (.iload_n 0, 1) := by decide +kernel
theorem dJI_bitCount_11 : decode cJI_bitCount 11 = .ok (.ldc_w 266, 3) := by decide +kernel
theorem dJI_bitCount_14 : decode cJI_bitCount 14 = .ok (.iand, 1) := by decide +kernel
theorem dJI_bitCount_15 : decode cJI_bitCount 15 = .ok (.iload_n 0, 1) := by decide +kernel
theorem dJI_bitCount_16 : decode cJI_bitCount 16 = .ok (.iconst 2, 1) := by decide +kernel
theorem dJI_bitCount_17 : decode cJI_bitCount 17 = .ok (.iushr, 1) := by decide +kernel
theorem dJI_bitCount_18 : decode cJI_bitCount 18 = .ok (.ldc_w 266, 3) := by decide +kernel
theorem dJI_bitCount_21 : decode cJI_bitCount 21 = .ok (.iand, 1) := by decide +kernel
theorem dJI_bitCount_22 : decode cJI_bitCount 22 = .ok (.iadd, 1) := by decide +kernel
theorem dJI_bitCount_23 : decode cJI_bitCount 23 = .ok (.istore_n 0, 1) := by decide +kernel
theorem dJI_bitCount_24 : decode cJI_bitCount 24 = .ok (.iload_n 0, 1) := by decide +kernel
theorem dJI_bitCount_25 : decode cJI_bitCount 25 = .ok (.iload_n 0, 1) := by decide +kernel
theorem dJI_bitCount_26 : decode cJI_bitCount 26 = .ok (.iconst 4, 1) := by decide +kernel
theorem dJI_bitCount_27 : decode cJI_bitCount 27 = .ok (.iushr, 1) := by decide +kernel
theorem dJI_bitCount_28 : decode cJI_bitCount 28 = .ok (.iadd, 1) := by decide +kernel
theorem dJI_bitCount_29 : decode cJI_bitCount 29 = .ok (.ldc_w 267, 3) := by decide +kernel
theorem dJI_bitCount_32 : decode cJI_bitCount 32 = .ok (.iand, 1) := by decide +kernel
theorem dJI_bitCount_33 : decode cJI_bitCount 33 = .ok (.istore_n 0, 1) := by decide +kernel
theorem dJI_bitCount_34 : decode cJI_bitCount 34 = .ok (.iload_n 0, 1) := by decide +kernel
theorem dJI_bitCount_35 : decode cJI_bitCount 35 = .ok (.iload_n 0, 1) := by decide +kernel
theorem dJI_bitCount_36 : decode cJI_bitCount 36 = .ok (.bipush 8, 2) := by decide +kernel
theorem dJI_bitCount_38 : decode cJI_bitCount 38 = .ok (.iushr, 1) := by decide +kernel
theorem dJI_bitCount_39 : decode cJI_bitCount 39 = .ok (.iadd, 1) := by decide +kernel
theorem dJI_bitCount_40 : decode cJI_bitCount 40 = .ok (.istore_n 0, 1) := by decide +kernel
theorem dJI_bitCount_41 : decode cJI_bitCount 41 = .ok (.iload_n 0, 1) := by decide +kernel
theorem dJI_bitCount_42 : decode cJI_bitCount 42 = .ok (.iload_n 0, 1) := by decide +kernel
theorem dJI_bitCount_43 : decode cJI_bitCount 43 = .ok (.bipush 16, 2) := by decide +kernel
theorem dJI_bitCount_45 : decode cJI_bitCount 45 = .ok (.iushr, 1) := by decide +kernel
theorem dJI_bitCount_46 : decode cJI_bitCount 46 = .ok (.iadd, 1) := by decide +kernel
theorem dJI_bitCount_47 : decode cJI_bitCount 47 = .ok (.istore_n 0, 1) := by decide +kernel
theorem dJI_bitCount_48 : decode cJI_bitCount 48 = .ok (.iload_n 0, 1) := by decide +kernel
theorem dJI_bitCount_49 : decode cJI_bitCount 49 = .ok (.bipush 63, 2) := by decide +kernel
theorem dJI_bitCount_51 : decode cJI_bitCount 51 = .ok (.iand, 1) := by decide +kernel
theorem dJI_bitCount_52 : decode cJI_bitCount 52 = .ok (.ireturn, 1) := by decide +kernel
theorem kcJI_ok : True := trivial
def pcN (n : Nat) : Nat := n % 2 + n / 2 % 2 + n / 4 % 2 + n / 8 % 2 + n / 16 % 2 + n / 32 % 2 + n / 64 % 2
def bcS (x y : Int32) : Int32 := (x.toUInt32 >>> (y.toUInt32 &&& Int32.toUInt32 31)).toInt32
def bc1 (x : Int32) : Int32 := x - (bcS x (iI 1) &&& 1431655765)
def bc2 (x : Int32) : Int32 := (x &&& 858993459) + (bcS x (iI 2) &&& 858993459)
def bc3 (x : Int32) : Int32 := (x + bcS x (iI 4)) &&& 252645135
def bc4 (x : Int32) : Int32 := x + bcS x (iI 8)
def bc5 (x : Int32) : Int32 := x + bcS x (iI 16)
def bc6 (x : Int32) : Int32 := x &&& iI 63
theorem bc_ok : ∀ n : Nat, n < 128 → bc6 (bc5 (bc4 (bc3 (bc2 (bc1 (iI (n : Int))))))) = iI ((pcN n : Nat) : Int) := by decide +kernel
theorem and_ok : ∀ a : Nat, a < 128 → ∀ c : Nat, c < 128 → iI (a : Int) &&& iI (c : Int) = iI ((a &&& c : Nat) : Int) := by decide +kernel
theorem shl_ok : ∀ t : Nat, t < 8 → iI 1 <<< (iI (t : Int) &&& 31) = iI ((2 ^ t : Nat) : Int) := by decide +kernel
theorem or_ok : ∀ t : Nat, t < 8 → ∀ a : Nat, a < 128 → a < 2 ^ t → iI (a : Int) ||| iI ((2 ^ t : Nat) : Int) = iI ((a + 2 ^ t : Nat) : Int) := by decide +kernel
theorem shl1_ok : ∀ a : Nat, a < 256 → iI (a : Int) <<< (iI 1 &&& 31) = iI ((2 * a : Nat) : Int) := by decide +kernel
theorem ushr_ok : ∀ t : Nat, t < 8 → ∀ a : Nat, a < 256 → ((iI (a : Int)).toUInt32 >>> ((iI (t : Int)).toUInt32 &&& Int32.toUInt32 31)).toInt32 = iI ((a / 2 ^ t : Nat) : Int) := by decide +kernel
theorem and1_ok : ∀ a : Nat, a < 256 → iI (a : Int) &&& iI 1 = iI ((a % 2 : Nat) : Int) := by decide +kernel
theorem or1_ok : ∀ a : Nat, a < 256 → ∀ c : Nat, c < 2 → iI ((2 * a : Nat) : Int) ||| iI (c : Int) = iI ((2 * a + c : Nat) : Int) := by decide +kernel
theorem pcN_le : ∀ n : Nat, n < 128 → pcN n ≤ 7 := by decide +kernel
def rmJI_bitCount : Room := { frames := 0, cells := 0, slots := 0, locals := 0 }
set_option maxHeartbeats 4000000 in
set_option maxRecDepth 100000 in
theorem mJI_bitCount (l : Launch) (D : va_G) (cI cG : ClassId) (n : Nat) (hn : n < 128) : zRI l yJI_bitCount wJI_bitCount rmJI_bitCount D vwCl (zT cI cG) [.int (iI (n : Int))] [] (fun z => z = ((pcN n : Nat) : Int)) := by
  refine zRI.of (cc := cJI_bitCount) (maxL := 1) (rt := .int) (by decide) rfl (Nat.le_of_ble_eq_true rfl) (fun _ _ => rfl) ?_
  intro p e s m args below meth c ls Q hx hb hml hown hts hK hP hX hl hret
  have hl : lv_has ls 1 [(0, .int (iI (n : Int)))] := hl
  obtain ⟨v0, e0⟩ : ∃ v, v = iI (n : Int) := ⟨_, rfl⟩
  rw [← e0] at hl
  refine lv_iload_n hx hb dJI_bitCount_0 rfl (lv_at hl 0 rfl) ?_
  refine lv_iload_n hx hb dJI_bitCount_1 rfl (lv_at hl 0 rfl) ?_
  refine lv_iconst (v := iI 1) hx hb dJI_bitCount_2 rfl ?_
  refine lv_iushr hx hb dJI_bitCount_3 rfl ?_
  refine lv_ldcw hx hb hown (hts _ (List.mem_cons_of_mem _ lkJI_265)) dJI_bitCount_4 ?_
  refine lv_iand hx hb dJI_bitCount_7 ?_
  refine lv_isub hx hb dJI_bitCount_8 ?_
  refine lv_topi (x := bc1 v0) (fun v1 e1 => ?_)
  refine lv_istore_n (lv' := [(0, .int v1)]) hx hb dJI_bitCount_9 rfl hl (by decide) rfl (fun ls hl => ?_)
  refine lv_iload_n hx hb dJI_bitCount_10 rfl (lv_at hl 0 rfl) ?_
  refine lv_ldcw hx hb hown (hts _ (List.mem_cons_of_mem _ lkJI_266)) dJI_bitCount_11 ?_
  refine lv_iand hx hb dJI_bitCount_14 ?_
  refine lv_iload_n hx hb dJI_bitCount_15 rfl (lv_at hl 0 rfl) ?_
  refine lv_iconst (v := iI 2) hx hb dJI_bitCount_16 rfl ?_
  refine lv_iushr hx hb dJI_bitCount_17 rfl ?_
  refine lv_ldcw hx hb hown (hts _ (List.mem_cons_of_mem _ lkJI_266)) dJI_bitCount_18 ?_
  refine lv_iand hx hb dJI_bitCount_21 ?_
  refine lv_iadd hx hb dJI_bitCount_22 ?_
  refine lv_topi (x := bc2 v1) (fun v2 e2 => ?_)
  refine lv_istore_n (lv' := [(0, .int v2)]) hx hb dJI_bitCount_23 rfl hl (by decide) rfl (fun ls hl => ?_)
  refine lv_iload_n hx hb dJI_bitCount_24 rfl (lv_at hl 0 rfl) ?_
  refine lv_iload_n hx hb dJI_bitCount_25 rfl (lv_at hl 0 rfl) ?_
  refine lv_iconst (v := iI 4) hx hb dJI_bitCount_26 rfl ?_
  refine lv_iushr hx hb dJI_bitCount_27 rfl ?_
  refine lv_iadd hx hb dJI_bitCount_28 ?_
  refine lv_ldcw hx hb hown (hts _ (List.mem_cons_of_mem _ lkJI_267)) dJI_bitCount_29 ?_
  refine lv_iand hx hb dJI_bitCount_32 ?_
  refine lv_topi (x := bc3 v2) (fun v3 e3 => ?_)
  refine lv_istore_n (lv' := [(0, .int v3)]) hx hb dJI_bitCount_33 rfl hl (by decide) rfl (fun ls hl => ?_)
  refine lv_iload_n hx hb dJI_bitCount_34 rfl (lv_at hl 0 rfl) ?_
  refine lv_iload_n hx hb dJI_bitCount_35 rfl (lv_at hl 0 rfl) ?_
  refine lv_bipush (v := iI 8) hx hb dJI_bitCount_36 (by decide) ?_
  refine lv_iushr hx hb dJI_bitCount_38 rfl ?_
  refine lv_iadd hx hb dJI_bitCount_39 ?_
  refine lv_topi (x := bc4 v3) (fun v4 e4 => ?_)
  refine lv_istore_n (lv' := [(0, .int v4)]) hx hb dJI_bitCount_40 rfl hl (by decide) rfl (fun ls hl => ?_)
  refine lv_iload_n hx hb dJI_bitCount_41 rfl (lv_at hl 0 rfl) ?_
  refine lv_iload_n hx hb dJI_bitCount_42 rfl (lv_at hl 0 rfl) ?_
  refine lv_bipush (v := iI 16) hx hb dJI_bitCount_43 (by decide) ?_
  refine lv_iushr hx hb dJI_bitCount_45 rfl ?_
  refine lv_iadd hx hb dJI_bitCount_46 ?_
  refine lv_topi (x := bc5 v4) (fun v5 e5 => ?_)
  refine lv_istore_n (lv' := [(0, .int v5)]) hx hb dJI_bitCount_47 rfl hl (by decide) rfl (fun ls hl => ?_)
  refine lv_iload_n hx hb dJI_bitCount_48 rfl (lv_at hl 0 rfl) ?_
  refine lv_bipush (v := iI 63) hx hb dJI_bitCount_49 (by decide) ?_
  refine lv_iand hx hb dJI_bitCount_51 ?_
  refine lv_topi (x := bc6 v5) (fun v6 e6 => ?_)
  have hf : v6 = iI ((pcN n : Nat) : Int) := by rw [e6, e5, e4, e3, e2, e1, e0]; exact bc_ok n hn
  rw [hf]
  exact hret 52 ls _ rfl dJI_bitCount_52
