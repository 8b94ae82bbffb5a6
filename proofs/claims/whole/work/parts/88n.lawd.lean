/-! The law, one kind of call: written by wip/whole/genlaw.py -/
set_option maxHeartbeats 8000000 in
set_option maxRecDepth 100000 in
theorem law_cd {p : Program} {l : Launch} {e : Env} {s : State} {m : MethodId} {below : List Frame} {meth : Method} {c : Code} {D : va_G} {cI cG cJ cZ : ClassId} {b0 L : Nat} {xs : Nat → Int32} {A : Nat → Prop} {kgh kha kch kb klf krt kcl kfr kfa kca kge kga kgaa : Nat} {q : MoA} {k : Nat} (hL : L ≤ 2048) (C0 : lw_At p s m meth c b0 L xs) (hKT : va_K D vwCl (zT cI cG) s) (hKM : va_K D vwCl (zM cI cJ cZ) s) (hX : stF A s s.heap) (hA : ∀ q, s.heap.size ≤ q → A q) (hAf : ∀ q, A q → s.heap.size ≤ q) (hlt : 4 * k + 4 ≤ L) (ih : lawI p l e s m below meth c D cI cG cJ cZ b0 A kgh kha kch kb klf krt kcl kfr kfa kca kge kga kgaa q 18 (k + 1)) : lawI p l e s m below meth c D cI cG cJ cZ b0 A kgh kha kch kb klf krt kcl kfr kfa kca kge kga kgaa q 502 k := by
  obtain ⟨hx, hb, hr, hml, hown, hts, hXs, hbl, hlocks, hgv⟩ := C0
  have hbA : ¬ A b0 := fun h => absurd (hAf _ h) (Nat.not_le.mpr hbl)
  intro gs khf chs kfch kgsz kfga kfs kff kfc kcc kfg kgc kgl kgr mln mfa mga mfb mgb mfc mfm mfz mfl mfk mfq mfh mfw mft mmk mfg mfo mfs mfp mfd mgd mfj hg hmc hM hkn H locs hP hD hS ls hl
  obtain ⟨hI9, hcl9, hcf9, hcv9, _, _⟩ := id hg
  have hgl9 := hI9.1
  refine lz_iinc (lv' := [(3, .int (iI ((4 * (k : Int)) + 4))), (0, .ref b0), (1, .ref kgh), (2, .ref q.mo)]) hx hb dLW_law_502 hl (k := 3) rfl (by decide) rfl (fun ls hl => ?_)
  refine lv_goto (tgt := 18) hx hb dLW_law_505 (by decide) ?_
  rw [show (4 * (k : Int)) + 4 = 4 * ((k + 1 : Nat) : Int) from by omega] at hl
  refine W.widen (k := 100 + 7 * (k + 1)) (n := 80000 + 800 * (k + 1)) (by omega) (by omega) ?_
  exact ih gs khf chs kfch kgsz kfga kfs kff kfc kcc kfg kgc kgl kgr mln mfa mga mfb mgb mfc mfm mfz mfl mfk mfq mfh mfw mft mmk mfg mfo mfs mfp mfd mgd mfj hg hmc hM hkn _ _ (zP_subT hP [0, 1, 2, 3, 4, 5, 6, 7, 8, 9, 10, 11, 12, 13, 14, 15, 16, 17, 18, 19, 20, 21, 22, 23, 24, 25, 26, 27, 28, 29, 30, 31, 32, 33, 34] rfl) (zD_subT hD [0, 1, 2, 3, 4, 5, 6, 7, 8, 9, 10, 11, 12, 13, 14, 15, 16, 17, 18, 19, 20, 21, 22, 23, 24, 25, 26, 27, 28, 29, 30, 31, 32, 33, 34] (by decide) rfl) hS _ (lv_sub hl [1, 2, 3, 0] rfl)
