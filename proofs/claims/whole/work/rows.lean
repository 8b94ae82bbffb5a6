section
-- ===== PART A: goes FIRST, ahead of the names: the tables' words, and 'selects' of the private methods out of them =====
/-- a private method of a class that the tables say can be made, by its rows of tables_1 -/
def lw_okq (q : MethodName × Nat) : Prop := (q.1.cls ≠ "java/lang/invoke/MethodHandle" ∧ q.1.cls ≠ "java/lang/invoke/VarHandle") ∧ Cond.instantiable q.1.cls q.2 ∈ tables_1 ∧ Cond.privateMethod q.1 ∈ tables_1 ∧ Cond.instanceMethod q.1 ∈ tables_1
theorem lw_p0 : lw_okq (⟨"GroupHalls$Row", "firstNotBelow", "(I)I"⟩, 2) := ⟨⟨by decide +kernel, by decide +kernel⟩, List.mem_of_getElem? (i := 43) (by decide +kernel), List.mem_of_getElem? (i := 136) (by decide +kernel), List.mem_of_getElem? (i := 137) (by decide +kernel)⟩
theorem lw_p1 : lw_okq (⟨"GroupHalls$Closure", "addCoset", "(II)Z"⟩, 6) := ⟨⟨by decide +kernel, by decide +kernel⟩, List.mem_of_getElem? (i := 37) (by decide +kernel), List.mem_of_getElem? (i := 160) (by decide +kernel), List.mem_of_getElem? (i := 161) (by decide +kernel)⟩
theorem lw_p2 : lw_okq (⟨"GroupHalls$Bench", "movedByLeft", "(II)I"⟩, 2) := ⟨⟨by decide +kernel, by decide +kernel⟩, List.mem_of_getElem? (i := 23) (by decide +kernel), List.mem_of_getElem? (i := 168) (by decide +kernel), List.mem_of_getElem? (i := 169) (by decide +kernel)⟩
theorem lw_p3 : lw_okq (⟨"GroupHalls", "numberOf", "(LGroupHalls$Row;)I"⟩, 7) := ⟨⟨by decide +kernel, by decide +kernel⟩, List.mem_of_getElem? (i := 13) (by decide +kernel), List.mem_of_getElem? (i := 180) (by decide +kernel), List.mem_of_getElem? (i := 181) (by decide +kernel)⟩
theorem lw_p4 : lw_okq (⟨"GroupHalls", "hallAt", "(I)LGroupHalls$Group;"⟩, 7) := ⟨⟨by decide +kernel, by decide +kernel⟩, List.mem_of_getElem? (i := 13) (by decide +kernel), List.mem_of_getElem? (i := 184) (by decide +kernel), List.mem_of_getElem? (i := 185) (by decide +kernel)⟩
theorem lw_p5 : lw_okq (⟨"GroupHalls$AlikeSets", "joinBy", "(ILGroupHalls$Row;LGroupHalls$Bench;[I)V"⟩, 3) := ⟨⟨by decide +kernel, by decide +kernel⟩, List.mem_of_getElem? (i := 284) (by decide +kernel), List.mem_of_getElem? (i := 299) (by decide +kernel), List.mem_of_getElem? (i := 300) (by decide +kernel)⟩
theorem lw_p6 : lw_okq (⟨"GroupHalls$AlikeSets", "join", "(II)V"⟩, 3) := ⟨⟨by decide +kernel, by decide +kernel⟩, List.mem_of_getElem? (i := 284) (by decide +kernel), List.mem_of_getElem? (i := 305) (by decide +kernel), List.mem_of_getElem? (i := 306) (by decide +kernel)⟩
theorem lw_p7 : lw_okq (⟨"GroupHalls$Halves", "addBit", "(ILGroupHalls$Row;LGroupHalls$Bench;)V"⟩, 2) := ⟨⟨by decide +kernel, by decide +kernel⟩, List.mem_of_getElem? (i := 327) (by decide +kernel), List.mem_of_getElem? (i := 340) (by decide +kernel), List.mem_of_getElem? (i := 341) (by decide +kernel)⟩
theorem lw_p8 : lw_okq (⟨"GroupHalls$Halves", "refusedBits", "(I)I"⟩, 2) := ⟨⟨by decide +kernel, by decide +kernel⟩, List.mem_of_getElem? (i := 327) (by decide +kernel), List.mem_of_getElem? (i := 388) (by decide +kernel), List.mem_of_getElem? (i := 389) (by decide +kernel)⟩
theorem lw_p9 : lw_okq (⟨"GroupHalls", "gatherOrbit", "(LGroupHalls$Row;I)V"⟩, 7) := ⟨⟨by decide +kernel, by decide +kernel⟩, List.mem_of_getElem? (i := 13) (by decide +kernel), List.mem_of_getElem? (i := 419) (by decide +kernel), List.mem_of_getElem? (i := 420) (by decide +kernel)⟩
theorem lw_p10 : lw_okq (⟨"GroupHalls", "gatherKeepers", "(LGroupHalls$Row;I)V"⟩, 7) := ⟨⟨by decide +kernel, by decide +kernel⟩, List.mem_of_getElem? (i := 13) (by decide +kernel), List.mem_of_getElem? (i := 427) (by decide +kernel), List.mem_of_getElem? (i := 428) (by decide +kernel)⟩
theorem lw_p11 : lw_okq (⟨"GroupHallsModel", "times", "(II)I"⟩, 24) := ⟨⟨by decide +kernel, by decide +kernel⟩, List.mem_of_getElem? (i := 436) (by decide +kernel), List.mem_of_getElem? (i := 535) (by decide +kernel), List.mem_of_getElem? (i := 536) (by decide +kernel)⟩
theorem lw_p12 : lw_okq (⟨"GroupHallsModel", "isListed", "(I)Z"⟩, 24) := ⟨⟨by decide +kernel, by decide +kernel⟩, List.mem_of_getElem? (i := 436) (by decide +kernel), List.mem_of_getElem? (i := 542) (by decide +kernel), List.mem_of_getElem? (i := 543) (by decide +kernel)⟩
theorem lw_p13 : lw_okq (⟨"GroupHallsModel", "numbered", "()I"⟩, 24) := ⟨⟨by decide +kernel, by decide +kernel⟩, List.mem_of_getElem? (i := 436) (by decide +kernel), List.mem_of_getElem? (i := 546) (by decide +kernel), List.mem_of_getElem? (i := 547) (by decide +kernel)⟩
theorem lw_p14 : lw_okq (⟨"GroupHallsModel", "isGroup", "(I)Z"⟩, 24) := ⟨⟨by decide +kernel, by decide +kernel⟩, List.mem_of_getElem? (i := 436) (by decide +kernel), List.mem_of_getElem? (i := 554) (by decide +kernel), List.mem_of_getElem? (i := 555) (by decide +kernel)⟩
theorem lw_p15 : lw_okq (⟨"GroupHallsModel", "matrices", "(I)I"⟩, 24) := ⟨⟨by decide +kernel, by decide +kernel⟩, List.mem_of_getElem? (i := 436) (by decide +kernel), List.mem_of_getElem? (i := 558) (by decide +kernel), List.mem_of_getElem? (i := 559) (by decide +kernel)⟩
def lw_privs_1 : List (MethodName × Nat) := [(⟨"GroupHalls$Row", "firstNotBelow", "(I)I"⟩, 2), (⟨"GroupHalls$Closure", "addCoset", "(II)Z"⟩, 6), (⟨"GroupHalls$Bench", "movedByLeft", "(II)I"⟩, 2), (⟨"GroupHalls", "numberOf", "(LGroupHalls$Row;)I"⟩, 7), (⟨"GroupHalls", "hallAt", "(I)LGroupHalls$Group;"⟩, 7), (⟨"GroupHalls$AlikeSets", "joinBy", "(ILGroupHalls$Row;LGroupHalls$Bench;[I)V"⟩, 3), (⟨"GroupHalls$AlikeSets", "join", "(II)V"⟩, 3), (⟨"GroupHalls$Halves", "addBit", "(ILGroupHalls$Row;LGroupHalls$Bench;)V"⟩, 2), (⟨"GroupHalls$Halves", "refusedBits", "(I)I"⟩, 2), (⟨"GroupHalls", "gatherOrbit", "(LGroupHalls$Row;I)V"⟩, 7), (⟨"GroupHalls", "gatherKeepers", "(LGroupHalls$Row;I)V"⟩, 7), (⟨"GroupHallsModel", "times", "(II)I"⟩, 24), (⟨"GroupHallsModel", "isListed", "(I)Z"⟩, 24), (⟨"GroupHallsModel", "numbered", "()I"⟩, 24), (⟨"GroupHallsModel", "isGroup", "(I)Z"⟩, 24), (⟨"GroupHallsModel", "matrices", "(I)I"⟩, 24)]
theorem lw_r1 : ∀ q ∈ lw_privs_1, lw_okq q := List.forall_mem_cons.mpr ⟨lw_p0, List.forall_mem_cons.mpr ⟨lw_p1, List.forall_mem_cons.mpr ⟨lw_p2, List.forall_mem_cons.mpr ⟨lw_p3, List.forall_mem_cons.mpr ⟨lw_p4, List.forall_mem_cons.mpr ⟨lw_p5, List.forall_mem_cons.mpr ⟨lw_p6, List.forall_mem_cons.mpr ⟨lw_p7, List.forall_mem_cons.mpr ⟨lw_p8, List.forall_mem_cons.mpr ⟨lw_p9, List.forall_mem_cons.mpr ⟨lw_p10, List.forall_mem_cons.mpr ⟨lw_p11, List.forall_mem_cons.mpr ⟨lw_p12, List.forall_mem_cons.mpr ⟨lw_p13, List.forall_mem_cons.mpr ⟨lw_p14, List.forall_mem_cons.mpr ⟨lw_p15, fun _ h => absurd h List.not_mem_nil⟩⟩⟩⟩⟩⟩⟩⟩⟩⟩⟩⟩⟩⟩⟩⟩
theorem lw_p16 : lw_okq (⟨"GroupHallsModel", "centrings", "(I)I"⟩, 24) := ⟨⟨by decide +kernel, by decide +kernel⟩, List.mem_of_getElem? (i := 436) (by decide +kernel), List.mem_of_getElem? (i := 562) (by decide +kernel), List.mem_of_getElem? (i := 563) (by decide +kernel)⟩
theorem lw_p17 : lw_okq (⟨"GroupHallsModel", "letterOf", "(II)I"⟩, 24) := ⟨⟨by decide +kernel, by decide +kernel⟩, List.mem_of_getElem? (i := 436) (by decide +kernel), List.mem_of_getElem? (i := 566) (by decide +kernel), List.mem_of_getElem? (i := 567) (by decide +kernel)⟩
theorem lw_p18 : lw_okq (⟨"GroupHallsModel", "hasShift", "(II)Z"⟩, 24) := ⟨⟨by decide +kernel, by decide +kernel⟩, List.mem_of_getElem? (i := 436) (by decide +kernel), List.mem_of_getElem? (i := 570) (by decide +kernel), List.mem_of_getElem? (i := 571) (by decide +kernel)⟩
theorem lw_p19 : lw_okq (⟨"GroupHallsModel", "place", "(II)I"⟩, 24) := ⟨⟨by decide +kernel, by decide +kernel⟩, List.mem_of_getElem? (i := 436) (by decide +kernel), List.mem_of_getElem? (i := 574) (by decide +kernel), List.mem_of_getElem? (i := 575) (by decide +kernel)⟩
theorem lw_p20 : lw_okq (⟨"GroupHallsModel", "classOf", "([III)I"⟩, 24) := ⟨⟨by decide +kernel, by decide +kernel⟩, List.mem_of_getElem? (i := 436) (by decide +kernel), List.mem_of_getElem? (i := 578) (by decide +kernel), List.mem_of_getElem? (i := 579) (by decide +kernel)⟩
theorem lw_p21 : lw_okq (⟨"GroupHallsModel", "know", "(I)V"⟩, 24) := ⟨⟨by decide +kernel, by decide +kernel⟩, List.mem_of_getElem? (i := 436) (by decide +kernel), List.mem_of_getElem? (i := 588) (by decide +kernel), List.mem_of_getElem? (i := 589) (by decide +kernel)⟩
theorem lw_p22 : lw_okq (⟨"GroupHallsModel", "countAlike", "(II)I"⟩, 24) := ⟨⟨by decide +kernel, by decide +kernel⟩, List.mem_of_getElem? (i := 436) (by decide +kernel), List.mem_of_getElem? (i := 592) (by decide +kernel), List.mem_of_getElem? (i := 593) (by decide +kernel)⟩
theorem lw_p23 : lw_okq (⟨"GroupHallsModel", "gatherHalves", "(II)V"⟩, 24) := ⟨⟨by decide +kernel, by decide +kernel⟩, List.mem_of_getElem? (i := 436) (by decide +kernel), List.mem_of_getElem? (i := 596) (by decide +kernel), List.mem_of_getElem? (i := 597) (by decide +kernel)⟩
theorem lw_p24 : lw_okq (⟨"GroupHallsModel", "made", "(II)I"⟩, 24) := ⟨⟨by decide +kernel, by decide +kernel⟩, List.mem_of_getElem? (i := 436) (by decide +kernel), List.mem_of_getElem? (i := 600) (by decide +kernel), List.mem_of_getElem? (i := 601) (by decide +kernel)⟩
theorem lw_p25 : lw_okq (⟨"GroupHallsModel", "isHalf", "(IIII)Z"⟩, 24) := ⟨⟨by decide +kernel, by decide +kernel⟩, List.mem_of_getElem? (i := 436) (by decide +kernel), List.mem_of_getElem? (i := 604) (by decide +kernel), List.mem_of_getElem? (i := 605) (by decide +kernel)⟩
theorem lw_p26 : lw_okq (⟨"GroupHallsModel", "keepHalf", "(II)V"⟩, 24) := ⟨⟨by decide +kernel, by decide +kernel⟩, List.mem_of_getElem? (i := 436) (by decide +kernel), List.mem_of_getElem? (i := 608) (by decide +kernel), List.mem_of_getElem? (i := 609) (by decide +kernel)⟩
theorem lw_p27 : lw_okq (⟨"GroupHallsModel", "comesAhead", "(JJJI)Z"⟩, 24) := ⟨⟨by decide +kernel, by decide +kernel⟩, List.mem_of_getElem? (i := 436) (by decide +kernel), List.mem_of_getElem? (i := 612) (by decide +kernel), List.mem_of_getElem? (i := 613) (by decide +kernel)⟩
theorem lw_p28 : lw_okq (⟨"GroupHallsModel", "isMember", "(II)Z"⟩, 24) := ⟨⟨by decide +kernel, by decide +kernel⟩, List.mem_of_getElem? (i := 436) (by decide +kernel), List.mem_of_getElem? (i := 623) (by decide +kernel), List.mem_of_getElem? (i := 624) (by decide +kernel)⟩
theorem lw_p29 : lw_okq (⟨"GroupHallsModel", "keepersOf", "(II)I"⟩, 24) := ⟨⟨by decide +kernel, by decide +kernel⟩, List.mem_of_getElem? (i := 436) (by decide +kernel), List.mem_of_getElem? (i := 655) (by decide +kernel), List.mem_of_getElem? (i := 656) (by decide +kernel)⟩
theorem lw_p30 : lw_okq (⟨"GroupHallsModel", "taken", "(II)I"⟩, 24) := ⟨⟨by decide +kernel, by decide +kernel⟩, List.mem_of_getElem? (i := 436) (by decide +kernel), List.mem_of_getElem? (i := 659) (by decide +kernel), List.mem_of_getElem? (i := 660) (by decide +kernel)⟩
theorem lw_p31 : lw_okq (⟨"GroupHallsModel", "orbitOf", "(II)I"⟩, 24) := ⟨⟨by decide +kernel, by decide +kernel⟩, List.mem_of_getElem? (i := 436) (by decide +kernel), List.mem_of_getElem? (i := 663) (by decide +kernel), List.mem_of_getElem? (i := 664) (by decide +kernel)⟩
def lw_privs_2 : List (MethodName × Nat) := [(⟨"GroupHallsModel", "centrings", "(I)I"⟩, 24), (⟨"GroupHallsModel", "letterOf", "(II)I"⟩, 24), (⟨"GroupHallsModel", "hasShift", "(II)Z"⟩, 24), (⟨"GroupHallsModel", "place", "(II)I"⟩, 24), (⟨"GroupHallsModel", "classOf", "([III)I"⟩, 24), (⟨"GroupHallsModel", "know", "(I)V"⟩, 24), (⟨"GroupHallsModel", "countAlike", "(II)I"⟩, 24), (⟨"GroupHallsModel", "gatherHalves", "(II)V"⟩, 24), (⟨"GroupHallsModel", "made", "(II)I"⟩, 24), (⟨"GroupHallsModel", "isHalf", "(IIII)Z"⟩, 24), (⟨"GroupHallsModel", "keepHalf", "(II)V"⟩, 24), (⟨"GroupHallsModel", "comesAhead", "(JJJI)Z"⟩, 24), (⟨"GroupHallsModel", "isMember", "(II)Z"⟩, 24), (⟨"GroupHallsModel", "keepersOf", "(II)I"⟩, 24), (⟨"GroupHallsModel", "taken", "(II)I"⟩, 24), (⟨"GroupHallsModel", "orbitOf", "(II)I"⟩, 24)]
theorem lw_r2 : ∀ q ∈ lw_privs_2, lw_okq q := List.forall_mem_cons.mpr ⟨lw_p16, List.forall_mem_cons.mpr ⟨lw_p17, List.forall_mem_cons.mpr ⟨lw_p18, List.forall_mem_cons.mpr ⟨lw_p19, List.forall_mem_cons.mpr ⟨lw_p20, List.forall_mem_cons.mpr ⟨lw_p21, List.forall_mem_cons.mpr ⟨lw_p22, List.forall_mem_cons.mpr ⟨lw_p23, List.forall_mem_cons.mpr ⟨lw_p24, List.forall_mem_cons.mpr ⟨lw_p25, List.forall_mem_cons.mpr ⟨lw_p26, List.forall_mem_cons.mpr ⟨lw_p27, List.forall_mem_cons.mpr ⟨lw_p28, List.forall_mem_cons.mpr ⟨lw_p29, List.forall_mem_cons.mpr ⟨lw_p30, List.forall_mem_cons.mpr ⟨lw_p31, fun _ h => absurd h List.not_mem_nil⟩⟩⟩⟩⟩⟩⟩⟩⟩⟩⟩⟩⟩⟩⟩⟩
def lw_privs : List (MethodName × Nat) := lw_privs_1 ++ (lw_privs_2)
def lw_tbl : List Cond := k2_sels lw_privs ++ tables_1
theorem lw_privs_ok : ∀ q ∈ lw_privs, lw_okq q := by
  show ∀ q ∈ lw_privs_1 ++ (lw_privs_2), lw_okq q
  exact List.forall_mem_append.mpr ⟨lw_r1, lw_r2⟩
-- ===== end of PART A; then your names; then what follows =====
end
section
/-! Names, fields, words: written by wip/whole/names.py. -/
def TW : List Cond := lw_tbl.filter goodWord
theorem twm {w : Cond} (h : w ∈ lw_tbl) (hg : goodWord w = true) : w ∈ TW := List.mem_filter.mpr ⟨h, hg⟩
theorem tw_in : ∀ w ∈ TW, w ∈ lw_tbl := fun _ h => (List.mem_filter.mp h).1
theorem gTW {x y : Cond} (h : y ∈ TW) : GoodIn (x :: TW) (y :: TW) := fun w hw => by
  have hm : w ∈ TW := by rcases List.mem_cons.mp hw with rfl | q <;> assumption
  exact ⟨List.mem_cons_of_mem _ hm, good_of_word (List.mem_filter.mp hm).2⟩
theorem gTL {y : Cond} (h : y ∈ TW) : GoodIn lw_tbl (y :: TW) := fun w hw => by
  have hm : w ∈ TW := by rcases List.mem_cons.mp hw with rfl | q <;> assumption
  exact ⟨tw_in w hm, good_of_word (List.mem_filter.mp hm).2⟩
theorem gT1 {x y : Cond} {z : List Cond} (h : y ∈ TW) (hz : GoodIn (x :: TW) z) : GoodIn (x :: TW) (y :: z) := fun w hw => by
  rcases List.mem_cons.mp hw with rfl | q
  · exact ⟨List.mem_cons_of_mem _ h, good_of_word (List.mem_filter.mp h).2⟩
  · exact hz w q
theorem gT0 {y : Cond} {z : List Cond} (h : y ∈ TW) (hz : GoodIn lw_tbl z) : GoodIn lw_tbl (y :: z) := fun w hw => by
  rcases List.mem_cons.mp hw with rfl | q
  · exact ⟨tw_in _ h, good_of_word (List.mem_filter.mp h).2⟩
  · exact hz w q
def nAS : String := "GroupHalls$AlikeSets"
def nBE : String := "GroupHalls$Bench"
def nCL : String := "GroupHalls$Closure"
def nGR : String := "GroupHalls$Group"
def nHA : String := "GroupHalls$Halves"
def nRO : String := "GroupHalls$Row"
def nGH : String := "GroupHalls"
def nMO : String := "GroupHallsModel"
def nLW : String := "GroupHallsLaw"
def nJI : String := "java/lang/Integer"
def nJM : String := "java/lang/Math"
def nJS : String := "java/lang/System"
def fAS : u_T := fun k => match k with
  | 0 => ("GroupHalls$AlikeSets", "setOf", "[I", true)
  | 1 => ("GroupHalls$AlikeSets", "sizes", "[I", true)
  | _ => ("GroupHalls$AlikeSets", "count", "I", false)
def tAS : Nat → FieldType := fun k => match k with
  | 0 => .array .int
  | 1 => .array .int
  | _ => .int
theorem nmAS : ∀ a, a < 3 → ∀ b, b < 3 → a ≠ b → (fAS a).2.1 ≠ (fAS b).2.1 := by decide +kernel
theorem tkAS : ∀ k, k < 3 → parseFieldDescriptor (fAS k).2.2.1 = some (tAS k) := by decide +kernel
theorem inAS : ∀ w ∈ u_ws nAS fAS 3, w ∈ lw_tbl := by decide +kernel
theorem iwAS {x : Cond} : ∀ w ∈ u_ws nAS fAS 3, w ∈ x :: TW := fun w h => List.mem_cons_of_mem _ (twm (inAS w h) (by revert w h; decide +kernel))
def fBE : u_T := fun k => match k with
  | 0 => ("GroupHalls$Bench", "left", "[I", true)
  | _ => ("GroupHalls$Bench", "right", "[I", true)
def tBE : Nat → FieldType := fun k => match k with
  | 0 => .array .int
  | _ => .array .int
theorem nmBE : ∀ a, a < 2 → ∀ b, b < 2 → a ≠ b → (fBE a).2.1 ≠ (fBE b).2.1 := by decide +kernel
theorem tkBE : ∀ k, k < 2 → parseFieldDescriptor (fBE k).2.2.1 = some (tBE k) := by decide +kernel
theorem inBE : ∀ w ∈ u_ws nBE fBE 2, w ∈ lw_tbl := by decide +kernel
theorem iwBE {x : Cond} : ∀ w ∈ u_ws nBE fBE 2, w ∈ x :: TW := fun w h => List.mem_cons_of_mem _ (twm (inBE w h) (by revert w h; decide +kernel))
def fCL : u_T := fun k => match k with
  | 0 => ("GroupHalls$Closure", "bench", "LGroupHalls$Bench;", true)
  | 1 => ("GroupHalls$Closure", "found", "LGroupHalls$Row;", true)
  | 2 => ("GroupHalls$Closure", "came", "[I", true)
  | 3 => ("GroupHalls$Closure", "cameCount", "I", false)
  | 4 => ("GroupHalls$Closure", "generators", "[I", true)
  | _ => ("GroupHalls$Closure", "generatorCount", "I", false)
def tCL : Nat → FieldType := fun k => match k with
  | 0 => .object "GroupHalls$Bench"
  | 1 => .object "GroupHalls$Row"
  | 2 => .array .int
  | 3 => .int
  | 4 => .array .int
  | _ => .int
theorem nmCL : ∀ a, a < 6 → ∀ b, b < 6 → a ≠ b → (fCL a).2.1 ≠ (fCL b).2.1 := by decide +kernel
theorem tkCL : ∀ k, k < 6 → parseFieldDescriptor (fCL k).2.2.1 = some (tCL k) := by decide +kernel
theorem inCL : ∀ w ∈ u_ws nCL fCL 6, w ∈ lw_tbl := by decide +kernel
theorem iwCL {x : Cond} : ∀ w ∈ u_ws nCL fCL 6, w ∈ x :: TW := fun w h => List.mem_cons_of_mem _ (twm (inCL w h) (by revert w h; decide +kernel))
def fGR : u_T := fun k => match k with
  | 0 => ("GroupHalls$Group", "keys", "LGroupHalls$Row;", true)
  | 1 => ("GroupHalls$Group", "matrices", "I", true)
  | 2 => ("GroupHalls$Group", "centrings", "I", true)
  | 3 => ("GroupHalls$Group", "letter", "I", true)
  | 4 => ("GroupHalls$Group", "pointClass", "I", true)
  | 5 => ("GroupHalls$Group", "alikeSets", "LGroupHalls$AlikeSets;", false)
  | _ => ("GroupHalls$Group", "halves", "LGroupHalls$Halves;", false)
def tGR : Nat → FieldType := fun k => match k with
  | 0 => .object "GroupHalls$Row"
  | 1 => .int
  | 2 => .int
  | 3 => .int
  | 4 => .int
  | 5 => .object "GroupHalls$AlikeSets"
  | _ => .object "GroupHalls$Halves"
theorem nmGR : ∀ a, a < 7 → ∀ b, b < 7 → a ≠ b → (fGR a).2.1 ≠ (fGR b).2.1 := by decide +kernel
theorem tkGR : ∀ k, k < 7 → parseFieldDescriptor (fGR k).2.2.1 = some (tGR k) := by decide +kernel
theorem inGR : ∀ w ∈ u_ws nGR fGR 7, w ∈ lw_tbl := by decide +kernel
theorem iwGR {x : Cond} : ∀ w ∈ u_ws nGR fGR 7, w ∈ x :: TW := fun w h => List.mem_cons_of_mem _ (twm (inGR w h) (by revert w h; decide +kernel))
def fHA : u_T := fun k => match k with
  | 0 => ("GroupHalls$Halves", "codes", "[I", true)
  | _ => ("GroupHalls$Halves", "bits", "I", false)
def tHA : Nat → FieldType := fun k => match k with
  | 0 => .array .int
  | _ => .int
theorem nmHA : ∀ a, a < 2 → ∀ b, b < 2 → a ≠ b → (fHA a).2.1 ≠ (fHA b).2.1 := by decide +kernel
theorem tkHA : ∀ k, k < 2 → parseFieldDescriptor (fHA k).2.2.1 = some (tHA k) := by decide +kernel
theorem inHA : ∀ w ∈ u_ws nHA fHA 2, w ∈ lw_tbl := by decide +kernel
theorem iwHA {x : Cond} : ∀ w ∈ u_ws nHA fHA 2, w ∈ x :: TW := fun w h => List.mem_cons_of_mem _ (twm (inHA w h) (by revert w h; decide +kernel))
def fRO : u_T := fun k => match k with
  | 0 => ("GroupHalls$Row", "numbers", "[I", true)
  | _ => ("GroupHalls$Row", "size", "I", false)
def tRO : Nat → FieldType := fun k => match k with
  | 0 => .array .int
  | _ => .int
theorem nmRO : ∀ a, a < 2 → ∀ b, b < 2 → a ≠ b → (fRO a).2.1 ≠ (fRO b).2.1 := by decide +kernel
theorem tkRO : ∀ k, k < 2 → parseFieldDescriptor (fRO k).2.2.1 = some (tRO k) := by decide +kernel
theorem inRO : ∀ w ∈ u_ws nRO fRO 2, w ∈ lw_tbl := by decide +kernel
theorem iwRO {x : Cond} : ∀ w ∈ u_ws nRO fRO 2, w ∈ x :: TW := fun w h => List.mem_cons_of_mem _ (twm (inRO w h) (by revert w h; decide +kernel))
def fGH : u_T := fun k => match k with
  | 0 => ("GroupHalls", "halls", "[LGroupHalls$Group;", true)
  | 1 => ("GroupHalls", "made", "I", false)
  | 2 => ("GroupHalls", "chosen", "[I", true)
  | 3 => ("GroupHalls", "chosenCount", "I", false)
  | 4 => ("GroupHalls", "bench", "LGroupHalls$Bench;", true)
  | 5 => ("GroupHalls", "closure", "LGroupHalls$Closure;", true)
  | _ => ("GroupHalls", "gathered", "LGroupHalls$Row;", true)
def tGH : Nat → FieldType := fun k => match k with
  | 0 => .array (.object "GroupHalls$Group")
  | 1 => .int
  | 2 => .array .int
  | 3 => .int
  | 4 => .object "GroupHalls$Bench"
  | 5 => .object "GroupHalls$Closure"
  | _ => .object "GroupHalls$Row"
theorem nmGH : ∀ a, a < 7 → ∀ b, b < 7 → a ≠ b → (fGH a).2.1 ≠ (fGH b).2.1 := by decide +kernel
theorem tkGH : ∀ k, k < 7 → parseFieldDescriptor (fGH k).2.2.1 = some (tGH k) := by decide +kernel
theorem inGH : ∀ w ∈ u_ws nGH fGH 7, w ∈ lw_tbl := by decide +kernel
theorem iwGH {x : Cond} : ∀ w ∈ u_ws nGH fGH 7, w ∈ x :: TW := fun w h => List.mem_cons_of_mem _ (twm (inGH w h) (by revert w h; decide +kernel))
def fMO : u_T := fun k => match k with
  | 0 => ("GroupHallsModel", "ma", "[I", true)
  | 1 => ("GroupHallsModel", "sa", "[I", true)
  | 2 => ("GroupHallsModel", "mb", "[I", true)
  | 3 => ("GroupHallsModel", "sb", "[I", true)
  | 4 => ("GroupHallsModel", "chosen", "[I", true)
  | 5 => ("GroupHallsModel", "choices", "I", false)
  | 6 => ("GroupHallsModel", "member", "[I", true)
  | 7 => ("GroupHallsModel", "size", "[I", true)
  | 8 => ("GroupHallsModel", "groups", "I", false)
  | 9 => ("GroupHallsModel", "list", "[I", true)
  | 10 => ("GroupHallsModel", "listed", "I", false)
  | 11 => ("GroupHallsModel", "alikes", "[I", true)
  | 12 => ("GroupHallsModel", "alikeMany", "[I", true)
  | 13 => ("GroupHallsModel", "halves", "[I", true)
  | 14 => ("GroupHallsModel", "known", "[Z", true)
  | 15 => ("GroupHallsModel", "halfBits", "[J", true)
  | 16 => ("GroupHallsModel", "table", "[I", true)
  | 17 => ("GroupHallsModel", "mark", "[I", true)
  | 18 => ("GroupHallsModel", "generator", "[I", true)
  | 19 => ("GroupHallsModel", "orbit", "[I", true)
  | 20 => ("GroupHallsModel", "sorts", "[I", true)
  | 21 => ("GroupHallsModel", "keeper", "[I", true)
  | 22 => ("GroupHallsModel", "mc", "[I", true)
  | _ => ("GroupHallsModel", "sc", "[I", true)
def tMO : Nat → FieldType := fun k => match k with
  | 0 => .array .int
  | 1 => .array .int
  | 2 => .array .int
  | 3 => .array .int
  | 4 => .array .int
  | 5 => .int
  | 6 => .array .int
  | 7 => .array .int
  | 8 => .int
  | 9 => .array .int
  | 10 => .int
  | 11 => .array .int
  | 12 => .array .int
  | 13 => .array .int
  | 14 => .array .boolean
  | 15 => .array .long
  | 16 => .array .int
  | 17 => .array .int
  | 18 => .array .int
  | 19 => .array .int
  | 20 => .array .int
  | 21 => .array .int
  | 22 => .array .int
  | _ => .array .int
theorem nmMO : ∀ a, a < 24 → ∀ b, b < 24 → a ≠ b → (fMO a).2.1 ≠ (fMO b).2.1 := by decide +kernel
theorem tkMO : ∀ k, k < 24 → parseFieldDescriptor (fMO k).2.2.1 = some (tMO k) := by decide +kernel
theorem inMO : ∀ w ∈ u_ws nMO fMO 24, w ∈ lw_tbl := by decide +kernel
theorem iwMO {x : Cond} : ∀ w ∈ u_ws nMO fMO 24, w ∈ x :: TW := fun w h => List.mem_cons_of_mem _ (twm (inMO w h) (by revert w h; decide +kernel))
abbrev vwCl : List vw_C := [(nAS, fAS, 3), (nBE, fBE, 2), (nCL, fCL, 6), (nGR, fGR, 7), (nHA, fHA, 2), (nRO, fRO, 2), (nGH, fGH, 7), (nMO, fMO, 24)]
abbrev cGH_init : ByteArray := prog_1_method_1_code
def yGH_init : MethodName := ⟨nGH, "<init>", "()V"⟩
abbrev wGH_init : List Cond := .code yGH_init cGH_init 1 ((Option.none : Option Jvm.ClassFile.FieldType)) :: TW
theorem kcGH_init : Cond.code yGH_init cGH_init 1 ((Option.none : Option Jvm.ClassFile.FieldType)) ∈ TW := twm (by decide +kernel) (by decide +kernel)
abbrev cBE_init : ByteArray := prog_3_method_1_code
def yBE_init : MethodName := ⟨nBE, "<init>", "()V"⟩
abbrev wBE_init : List Cond := .code yBE_init cBE_init 1 ((Option.none : Option Jvm.ClassFile.FieldType)) :: TW
theorem kcBE_init : Cond.code yBE_init cBE_init 1 ((Option.none : Option Jvm.ClassFile.FieldType)) ∈ TW := twm (by decide +kernel) (by decide +kernel)
abbrev cCL_init : ByteArray := prog_4_method_1_code
def yCL_init : MethodName := ⟨nCL, "<init>", "(LGroupHalls$Bench;)V"⟩
abbrev wCL_init : List Cond := .code yCL_init cCL_init 2 ((Option.none : Option Jvm.ClassFile.FieldType)) :: TW
theorem kcCL_init : Cond.code yCL_init cCL_init 2 ((Option.none : Option Jvm.ClassFile.FieldType)) ∈ TW := twm (by decide +kernel) (by decide +kernel)
abbrev cRO_init : ByteArray := prog_7_method_1_code
def yRO_init : MethodName := ⟨nRO, "<init>", "(I)V"⟩
abbrev wRO_init : List Cond := .code yRO_init cRO_init 2 ((Option.none : Option Jvm.ClassFile.FieldType)) :: TW
theorem kcRO_init : Cond.code yRO_init cRO_init 2 ((Option.none : Option Jvm.ClassFile.FieldType)) ∈ TW := twm (by decide +kernel) (by decide +kernel)
abbrev cJM_max : ByteArray := prog_11_method_65_code
def yJM_max : MethodName := ⟨nJM, "max", "(II)I"⟩
abbrev wJM_max : List Cond := .code yJM_max cJM_max 2 ((Option.some .int)) :: TW
theorem kcJM_max : Cond.code yJM_max cJM_max 2 ((Option.some .int)) ∈ TW := twm (by decide +kernel) (by decide +kernel)
abbrev cGH_choose : ByteArray := prog_1_method_2_code
def yGH_choose : MethodName := ⟨nGH, "choose", "(II)I"⟩
abbrev wGH_choose : List Cond := .code yGH_choose cGH_choose 5 ((Option.some .int)) :: TW
theorem kcGH_choose : Cond.code yGH_choose cGH_choose 5 ((Option.some .int)) ∈ TW := twm (by decide +kernel) (by decide +kernel)
abbrev cGH_isNine : ByteArray := prog_1_method_14_code
def yGH_isNine : MethodName := ⟨nGH, "isNine", "(I)Z"⟩
abbrev wGH_isNine : List Cond := .code yGH_isNine cGH_isNine 1 ((Option.some .boolean)) :: TW
theorem kcGH_isNine : Cond.code yGH_isNine cGH_isNine 1 ((Option.some .boolean)) ∈ TW := twm (by decide +kernel) (by decide +kernel)
abbrev cGH_isPlace : ByteArray := prog_1_method_15_code
def yGH_isPlace : MethodName := ⟨nGH, "isPlace", "(I)Z"⟩
abbrev wGH_isPlace : List Cond := .code yGH_isPlace cGH_isPlace 1 ((Option.some .boolean)) :: TW
theorem kcGH_isPlace : Cond.code yGH_isPlace cGH_isPlace 1 ((Option.some .boolean)) ∈ TW := twm (by decide +kernel) (by decide +kernel)
abbrev cBE_determinant : ByteArray := prog_3_method_2_code
def yBE_determinant : MethodName := ⟨nBE, "determinant", "(I)I"⟩
abbrev wBE_determinant : List Cond := .code yBE_determinant cBE_determinant 2 ((Option.some .int)) :: TW
theorem kcBE_determinant : Cond.code yBE_determinant cBE_determinant 2 ((Option.some .int)) ∈ TW := twm (by decide +kernel) (by decide +kernel)
abbrev cBE_read : ByteArray := prog_3_method_8_code
def yBE_read : MethodName := ⟨nBE, "read", "(I[I)V"⟩
abbrev wBE_read : List Cond := .code yBE_read cBE_read 4 ((Option.none : Option Jvm.ClassFile.FieldType)) :: TW
theorem kcBE_read : Cond.code yBE_read cBE_read 4 ((Option.none : Option Jvm.ClassFile.FieldType)) ∈ TW := twm (by decide +kernel) (by decide +kernel)
abbrev cGH_group : ByteArray := prog_1_method_3_code
def yGH_group : MethodName := ⟨nGH, "group", "()I"⟩
abbrev wGH_group : List Cond := .code yGH_group cGH_group 3 ((Option.some .int)) :: TW
theorem kcGH_group : Cond.code yGH_group cGH_group 3 ((Option.some .int)) ∈ TW := twm (by decide +kernel) (by decide +kernel)
abbrev cCL_start : ByteArray := prog_4_method_2_code
def yCL_start : MethodName := ⟨nCL, "start", "()V"⟩
abbrev wCL_start : List Cond := .code yCL_start cCL_start 1 ((Option.none : Option Jvm.ClassFile.FieldType)) :: TW
theorem kcCL_start : Cond.code yCL_start cCL_start 1 ((Option.none : Option Jvm.ClassFile.FieldType)) ∈ TW := twm (by decide +kernel) (by decide +kernel)
abbrev cRO_clear : ByteArray := prog_7_method_3_code
def yRO_clear : MethodName := ⟨nRO, "clear", "()V"⟩
abbrev wRO_clear : List Cond := .code yRO_clear cRO_clear 1 ((Option.none : Option Jvm.ClassFile.FieldType)) :: TW
theorem kcRO_clear : Cond.code yRO_clear cRO_clear 1 ((Option.none : Option Jvm.ClassFile.FieldType)) ∈ TW := twm (by decide +kernel) (by decide +kernel)
abbrev cRO_add : ByteArray := prog_7_method_7_code
def yRO_add : MethodName := ⟨nRO, "add", "(I)Z"⟩
abbrev wRO_add : List Cond := .code yRO_add cRO_add 3 ((Option.some .boolean)) :: TW
theorem kcRO_add : Cond.code yRO_add cRO_add 3 ((Option.some .boolean)) ∈ TW := twm (by decide +kernel) (by decide +kernel)
abbrev cRO_firstNotBelow : ByteArray := prog_7_method_9_code
def yRO_firstNotBelow : MethodName := ⟨nRO, "firstNotBelow", "(I)I"⟩
abbrev wRO_firstNotBelow : List Cond := .code yRO_firstNotBelow cRO_firstNotBelow 6 ((Option.some .int)) :: TW
theorem kcRO_firstNotBelow : Cond.code yRO_firstNotBelow cRO_firstNotBelow 6 ((Option.some .int)) ∈ TW := twm (by decide +kernel) (by decide +kernel)
abbrev cRO_at : ByteArray := prog_7_method_4_code
def yRO_at : MethodName := ⟨nRO, "at", "(I)I"⟩
abbrev wRO_at : List Cond := .code yRO_at cRO_at 2 ((Option.some .int)) :: TW
theorem kcRO_at : Cond.code yRO_at cRO_at 2 ((Option.some .int)) ∈ TW := twm (by decide +kernel) (by decide +kernel)
abbrev cCL_take : ByteArray := prog_4_method_6_code
def yCL_take : MethodName := ⟨nCL, "take", "(I)Z"⟩
abbrev wCL_take : List Cond := .code yCL_take cCL_take 6 ((Option.some .boolean)) :: TW
theorem kcCL_take : Cond.code yCL_take cCL_take 6 ((Option.some .boolean)) ∈ TW := twm (by decide +kernel) (by decide +kernel)
abbrev cRO_has : ByteArray := prog_7_method_5_code
def yRO_has : MethodName := ⟨nRO, "has", "(I)Z"⟩
abbrev wRO_has : List Cond := .code yRO_has cRO_has 2 ((Option.some .boolean)) :: TW
theorem kcRO_has : Cond.code yRO_has cRO_has 2 ((Option.some .boolean)) ∈ TW := twm (by decide +kernel) (by decide +kernel)
abbrev cRO_indexOf : ByteArray := prog_7_method_6_code
def yRO_indexOf : MethodName := ⟨nRO, "indexOf", "(I)I"⟩
abbrev wRO_indexOf : List Cond := .code yRO_indexOf cRO_indexOf 3 ((Option.some .int)) :: TW
theorem kcRO_indexOf : Cond.code yRO_indexOf cRO_indexOf 3 ((Option.some .int)) ∈ TW := twm (by decide +kernel) (by decide +kernel)
abbrev cCL_addCoset : ByteArray := prog_4_method_7_code
def yCL_addCoset : MethodName := ⟨nCL, "addCoset", "(II)Z"⟩
abbrev wCL_addCoset : List Cond := .code yCL_addCoset cCL_addCoset 5 ((Option.some .boolean)) :: TW
theorem kcCL_addCoset : Cond.code yCL_addCoset cCL_addCoset 5 ((Option.some .boolean)) ∈ TW := twm (by decide +kernel) (by decide +kernel)
abbrev cBE_times : ByteArray := prog_3_method_4_code
def yBE_times : MethodName := ⟨nBE, "times", "(II)I"⟩
abbrev wBE_times : List Cond := .code yBE_times cBE_times 7 ((Option.some .int)) :: TW
theorem kcBE_times : Cond.code yBE_times cBE_times 7 ((Option.some .int)) ∈ TW := twm (by decide +kernel) (by decide +kernel)
abbrev cBE_movedByLeft : ByteArray := prog_3_method_7_code
def yBE_movedByLeft : MethodName := ⟨nBE, "movedByLeft", "(II)I"⟩
abbrev wBE_movedByLeft : List Cond := .code yBE_movedByLeft cBE_movedByLeft 9 ((Option.some .int)) :: TW
theorem kcBE_movedByLeft : Cond.code yBE_movedByLeft cBE_movedByLeft 9 ((Option.some .int)) ∈ TW := twm (by decide +kernel) (by decide +kernel)
abbrev cCL_generator : ByteArray := prog_4_method_5_code
def yCL_generator : MethodName := ⟨nCL, "generator", "(I)I"⟩
abbrev wCL_generator : List Cond := .code yCL_generator cCL_generator 2 ((Option.some .int)) :: TW
theorem kcCL_generator : Cond.code yCL_generator cCL_generator 2 ((Option.some .int)) ∈ TW := twm (by decide +kernel) (by decide +kernel)
abbrev cCL_found : ByteArray := prog_4_method_3_code
def yCL_found : MethodName := ⟨nCL, "found", "()LGroupHalls$Row;"⟩
abbrev wCL_found : List Cond := .code yCL_found cCL_found 1 ((Option.some (.object "GroupHalls$Row"))) :: TW
theorem kcCL_found : Cond.code yCL_found cCL_found 1 ((Option.some (.object "GroupHalls$Row"))) ∈ TW := twm (by decide +kernel) (by decide +kernel)
abbrev cGH_numberOf : ByteArray := prog_1_method_17_code
def yGH_numberOf : MethodName := ⟨nGH, "numberOf", "(LGroupHalls$Row;)I"⟩
abbrev wGH_numberOf : List Cond := .code yGH_numberOf cGH_numberOf 4 ((Option.some .int)) :: TW
theorem kcGH_numberOf : Cond.code yGH_numberOf cGH_numberOf 4 ((Option.some .int)) ∈ TW := twm (by decide +kernel) (by decide +kernel)
abbrev cGH_hallAt : ByteArray := prog_1_method_16_code
def yGH_hallAt : MethodName := ⟨nGH, "hallAt", "(I)LGroupHalls$Group;"⟩
abbrev wGH_hallAt : List Cond := .code yGH_hallAt cGH_hallAt 2 ((Option.some (.object "GroupHalls$Group"))) :: TW
theorem kcGH_hallAt : Cond.code yGH_hallAt cGH_hallAt 2 ((Option.some (.object "GroupHalls$Group"))) ∈ TW := twm (by decide +kernel) (by decide +kernel)
abbrev cGR_keys : ByteArray := prog_5_method_2_code
def yGR_keys : MethodName := ⟨nGR, "keys", "()LGroupHalls$Row;"⟩
abbrev wGR_keys : List Cond := .code yGR_keys cGR_keys 1 ((Option.some (.object "GroupHalls$Row"))) :: TW
theorem kcGR_keys : Cond.code yGR_keys cGR_keys 1 ((Option.some (.object "GroupHalls$Row"))) ∈ TW := twm (by decide +kernel) (by decide +kernel)
abbrev cRO_isLike : ByteArray := prog_7_method_8_code
def yRO_isLike : MethodName := ⟨nRO, "isLike", "(LGroupHalls$Row;)Z"⟩
abbrev wRO_isLike : List Cond := .code yRO_isLike cRO_isLike 3 ((Option.some .boolean)) :: TW
theorem kcRO_isLike : Cond.code yRO_isLike cRO_isLike 3 ((Option.some .boolean)) ∈ TW := twm (by decide +kernel) (by decide +kernel)
abbrev cGR_init : ByteArray := prog_5_method_1_code
def yGR_init : MethodName := ⟨nGR, "<init>", "(LGroupHalls$Row;LGroupHalls$Bench;)V"⟩
abbrev wGR_init : List Cond := .code yGR_init cGR_init 8 ((Option.none : Option Jvm.ClassFile.FieldType)) :: TW
theorem kcGR_init : Cond.code yGR_init cGR_init 8 ((Option.none : Option Jvm.ClassFile.FieldType)) ∈ TW := twm (by decide +kernel) (by decide +kernel)
abbrev cRO_size : ByteArray := prog_7_method_2_code
def yRO_size : MethodName := ⟨nRO, "size", "()I"⟩
abbrev wRO_size : List Cond := .code yRO_size cRO_size 1 ((Option.some .int)) :: TW
theorem kcRO_size : Cond.code yRO_size cRO_size 1 ((Option.some .int)) ∈ TW := twm (by decide +kernel) (by decide +kernel)
abbrev cGR_letterOf : ByteArray := prog_5_method_9_code
def yGR_letterOf : MethodName := ⟨nGR, "letterOf", "(LGroupHalls$Row;I)I"⟩
abbrev wGR_letterOf : List Cond := .code yGR_letterOf cGR_letterOf 6 ((Option.some .int)) :: TW
theorem kcGR_letterOf : Cond.code yGR_letterOf cGR_letterOf 6 ((Option.some .int)) ∈ TW := twm (by decide +kernel) (by decide +kernel)
abbrev cGR_letterOfTwo : ByteArray := prog_5_method_10_code
def yGR_letterOfTwo : MethodName := ⟨nGR, "letterOfTwo", "(I)I"⟩
abbrev wGR_letterOfTwo : List Cond := .code yGR_letterOfTwo cGR_letterOfTwo 1 ((Option.some .int)) :: TW
theorem kcGR_letterOfTwo : Cond.code yGR_letterOfTwo cGR_letterOfTwo 1 ((Option.some .int)) ∈ TW := twm (by decide +kernel) (by decide +kernel)
abbrev cGH_classOf : ByteArray := prog_1_method_20_code
def yGH_classOf : MethodName := ⟨nGH, "classOf", "(LGroupHalls$Row;LGroupHalls$Bench;)I"⟩
abbrev wGH_classOf : List Cond := .code yGH_classOf cGH_classOf 6 ((Option.some .int)) :: TW
theorem kcGH_classOf : Cond.code yGH_classOf cGH_classOf 6 ((Option.some .int)) ∈ TW := twm (by decide +kernel) (by decide +kernel)
abbrev cBE_sort : ByteArray := prog_3_method_3_code
def yBE_sort : MethodName := ⟨nBE, "sort", "(I)I"⟩
abbrev wBE_sort : List Cond := .code yBE_sort cBE_sort 4 ((Option.some .int)) :: TW
theorem kcBE_sort : Cond.code yBE_sort cBE_sort 4 ((Option.some .int)) ∈ TW := twm (by decide +kernel) (by decide +kernel)
abbrev cGH_digitOf : ByteArray := prog_1_method_21_code
def yGH_digitOf : MethodName := ⟨nGH, "digitOf", "(I)I"⟩
abbrev wGH_digitOf : List Cond := .code yGH_digitOf cGH_digitOf 1 ((Option.some .int)) :: TW
theorem kcGH_digitOf : Cond.code yGH_digitOf cGH_digitOf 1 ((Option.some .int)) ∈ TW := twm (by decide +kernel) (by decide +kernel)
abbrev cGH_about : ByteArray := prog_1_method_4_code
def yGH_about : MethodName := ⟨nGH, "about", "(II)I"⟩
abbrev wGH_about : List Cond := .code yGH_about cGH_about 4 ((Option.some .int)) :: TW
theorem kcGH_about : Cond.code yGH_about cGH_about 4 ((Option.some .int)) ∈ TW := twm (by decide +kernel) (by decide +kernel)
abbrev cGR_matrices : ByteArray := prog_5_method_3_code
def yGR_matrices : MethodName := ⟨nGR, "matrices", "()I"⟩
abbrev wGR_matrices : List Cond := .code yGR_matrices cGR_matrices 1 ((Option.some .int)) :: TW
theorem kcGR_matrices : Cond.code yGR_matrices cGR_matrices 1 ((Option.some .int)) ∈ TW := twm (by decide +kernel) (by decide +kernel)
abbrev cGR_centrings : ByteArray := prog_5_method_4_code
def yGR_centrings : MethodName := ⟨nGR, "centrings", "()I"⟩
abbrev wGR_centrings : List Cond := .code yGR_centrings cGR_centrings 1 ((Option.some .int)) :: TW
theorem kcGR_centrings : Cond.code yGR_centrings cGR_centrings 1 ((Option.some .int)) ∈ TW := twm (by decide +kernel) (by decide +kernel)
abbrev cGR_letter : ByteArray := prog_5_method_5_code
def yGR_letter : MethodName := ⟨nGR, "letter", "()I"⟩
abbrev wGR_letter : List Cond := .code yGR_letter cGR_letter 1 ((Option.some .int)) :: TW
theorem kcGR_letter : Cond.code yGR_letter cGR_letter 1 ((Option.some .int)) ∈ TW := twm (by decide +kernel) (by decide +kernel)
abbrev cGR_pointClass : ByteArray := prog_5_method_6_code
def yGR_pointClass : MethodName := ⟨nGR, "pointClass", "()I"⟩
abbrev wGR_pointClass : List Cond := .code yGR_pointClass cGR_pointClass 1 ((Option.some .int)) :: TW
theorem kcGR_pointClass : Cond.code yGR_pointClass cGR_pointClass 1 ((Option.some .int)) ∈ TW := twm (by decide +kernel) (by decide +kernel)
abbrev cGR_alikeSets : ByteArray := prog_5_method_7_code
def yGR_alikeSets : MethodName := ⟨nGR, "alikeSets", "(LGroupHalls$Bench;LGroupHalls$Closure;)LGroupHalls$AlikeSets;"⟩
abbrev wGR_alikeSets : List Cond := .code yGR_alikeSets cGR_alikeSets 3 ((Option.some (.object "GroupHalls$AlikeSets"))) :: TW
theorem kcGR_alikeSets : Cond.code yGR_alikeSets cGR_alikeSets 3 ((Option.some (.object "GroupHalls$AlikeSets"))) ∈ TW := twm (by decide +kernel) (by decide +kernel)
abbrev cAS_init : ByteArray := prog_2_method_1_code
def yAS_init : MethodName := ⟨nAS, "<init>", "(LGroupHalls$Row;LGroupHalls$Bench;LGroupHalls$Closure;)V"⟩
abbrev wAS_init : List Cond := .code yAS_init cAS_init 8 ((Option.none : Option Jvm.ClassFile.FieldType)) :: TW
theorem kcAS_init : Cond.code yAS_init cAS_init 8 ((Option.none : Option Jvm.ClassFile.FieldType)) ∈ TW := twm (by decide +kernel) (by decide +kernel)
abbrev cCL_generatorCount : ByteArray := prog_4_method_4_code
def yCL_generatorCount : MethodName := ⟨nCL, "generatorCount", "()I"⟩
abbrev wCL_generatorCount : List Cond := .code yCL_generatorCount cCL_generatorCount 1 ((Option.some .int)) :: TW
theorem kcCL_generatorCount : Cond.code yCL_generatorCount cCL_generatorCount 1 ((Option.some .int)) ∈ TW := twm (by decide +kernel) (by decide +kernel)
abbrev cAS_joinBy : ByteArray := prog_2_method_4_code
def yAS_joinBy : MethodName := ⟨nAS, "joinBy", "(ILGroupHalls$Row;LGroupHalls$Bench;[I)V"⟩
abbrev wAS_joinBy : List Cond := .code yAS_joinBy cAS_joinBy 7 ((Option.none : Option Jvm.ClassFile.FieldType)) :: TW
theorem kcAS_joinBy : Cond.code yAS_joinBy cAS_joinBy 7 ((Option.none : Option Jvm.ClassFile.FieldType)) ∈ TW := twm (by decide +kernel) (by decide +kernel)
abbrev cAS_join : ByteArray := prog_2_method_5_code
def yAS_join : MethodName := ⟨nAS, "join", "(II)V"⟩
abbrev wAS_join : List Cond := .code yAS_join cAS_join 6 ((Option.none : Option Jvm.ClassFile.FieldType)) :: TW
theorem kcAS_join : Cond.code yAS_join cAS_join 6 ((Option.none : Option Jvm.ClassFile.FieldType)) ∈ TW := twm (by decide +kernel) (by decide +kernel)
abbrev cAS_count : ByteArray := prog_2_method_2_code
def yAS_count : MethodName := ⟨nAS, "count", "()I"⟩
abbrev wAS_count : List Cond := .code yAS_count cAS_count 1 ((Option.some .int)) :: TW
theorem kcAS_count : Cond.code yAS_count cAS_count 1 ((Option.some .int)) ∈ TW := twm (by decide +kernel) (by decide +kernel)
abbrev cGR_halves : ByteArray := prog_5_method_8_code
def yGR_halves : MethodName := ⟨nGR, "halves", "(LGroupHalls$Bench;LGroupHalls$Closure;)LGroupHalls$Halves;"⟩
abbrev wGR_halves : List Cond := .code yGR_halves cGR_halves 3 ((Option.some (.object "GroupHalls$Halves"))) :: TW
theorem kcGR_halves : Cond.code yGR_halves cGR_halves 3 ((Option.some (.object "GroupHalls$Halves"))) ∈ TW := twm (by decide +kernel) (by decide +kernel)
abbrev cHA_init : ByteArray := prog_6_method_1_code
def yHA_init : MethodName := ⟨nHA, "<init>", "(LGroupHalls$Row;LGroupHalls$Bench;LGroupHalls$Closure;)V"⟩
abbrev wHA_init : List Cond := .code yHA_init cHA_init 5 ((Option.none : Option Jvm.ClassFile.FieldType)) :: TW
theorem kcHA_init : Cond.code yHA_init cHA_init 5 ((Option.none : Option Jvm.ClassFile.FieldType)) ∈ TW := twm (by decide +kernel) (by decide +kernel)
abbrev cHA_addBit : ByteArray := prog_6_method_5_code
def yHA_addBit : MethodName := ⟨nHA, "addBit", "(ILGroupHalls$Row;LGroupHalls$Bench;)V"⟩
abbrev wHA_addBit : List Cond := .code yHA_addBit cHA_addBit 7 ((Option.none : Option Jvm.ClassFile.FieldType)) :: TW
theorem kcHA_addBit : Cond.code yHA_addBit cHA_addBit 7 ((Option.none : Option Jvm.ClassFile.FieldType)) ∈ TW := twm (by decide +kernel) (by decide +kernel)
abbrev cHA_count : ByteArray := prog_6_method_2_code
def yHA_count : MethodName := ⟨nHA, "count", "()I"⟩
abbrev wHA_count : List Cond := .code yHA_count cHA_count 1 ((Option.some .int)) :: TW
theorem kcHA_count : Cond.code yHA_count cHA_count 1 ((Option.some .int)) ∈ TW := twm (by decide +kernel) (by decide +kernel)
abbrev cGH_of : ByteArray := prog_1_method_5_code
def yGH_of : MethodName := ⟨nGH, "of", "(III)I"⟩
abbrev wGH_of : List Cond := .code yGH_of cGH_of 6 ((Option.some .int)) :: TW
theorem kcGH_of : Cond.code yGH_of cGH_of 6 ((Option.some .int)) ∈ TW := twm (by decide +kernel) (by decide +kernel)
abbrev cBE_turns : ByteArray := prog_3_method_6_code
def yBE_turns : MethodName := ⟨nBE, "turns", "(I)I"⟩
abbrev wBE_turns : List Cond := .code yBE_turns cBE_turns 4 ((Option.some .int)) :: TW
theorem kcBE_turns : Cond.code yBE_turns cBE_turns 4 ((Option.some .int)) ∈ TW := twm (by decide +kernel) (by decide +kernel)
abbrev cAS_sizeOf : ByteArray := prog_2_method_3_code
def yAS_sizeOf : MethodName := ⟨nAS, "sizeOf", "(I)I"⟩
abbrev wAS_sizeOf : List Cond := .code yAS_sizeOf cAS_sizeOf 3 ((Option.some .int)) :: TW
theorem kcAS_sizeOf : Cond.code yAS_sizeOf cAS_sizeOf 3 ((Option.some .int)) ∈ TW := twm (by decide +kernel) (by decide +kernel)
abbrev cGH_product : ByteArray := prog_1_method_6_code
def yGH_product : MethodName := ⟨nGH, "product", "(III)I"⟩
abbrev wGH_product : List Cond := .code yGH_product cGH_product 7 ((Option.some .int)) :: TW
theorem kcGH_product : Cond.code yGH_product cGH_product 7 ((Option.some .int)) ∈ TW := twm (by decide +kernel) (by decide +kernel)
abbrev cGH_find : ByteArray := prog_1_method_7_code
def yGH_find : MethodName := ⟨nGH, "find", "(III)I"⟩
abbrev wGH_find : List Cond := .code yGH_find cGH_find 5 ((Option.some .int)) :: TW
theorem kcGH_find : Cond.code yGH_find cGH_find 5 ((Option.some .int)) ∈ TW := twm (by decide +kernel) (by decide +kernel)
abbrev cGH_half : ByteArray := prog_1_method_8_code
def yGH_half : MethodName := ⟨nGH, "half", "(II)I"⟩
abbrev wGH_half : List Cond := .code yGH_half cGH_half 5 ((Option.some .int)) :: TW
theorem kcGH_half : Cond.code yGH_half cGH_half 5 ((Option.some .int)) ∈ TW := twm (by decide +kernel) (by decide +kernel)
abbrev cHA_gather : ByteArray := prog_6_method_3_code
def yHA_gather : MethodName := ⟨nHA, "gather", "(ILGroupHalls$Row;LGroupHalls$Row;)V"⟩
abbrev wHA_gather : List Cond := .code yHA_gather cHA_gather 6 ((Option.none : Option Jvm.ClassFile.FieldType)) :: TW
theorem kcHA_gather : Cond.code yHA_gather cHA_gather 6 ((Option.none : Option Jvm.ClassFile.FieldType)) ∈ TW := twm (by decide +kernel) (by decide +kernel)
abbrev cHA_refusedBits : ByteArray := prog_6_method_4_code
def yHA_refusedBits : MethodName := ⟨nHA, "refusedBits", "(I)I"⟩
abbrev wHA_refusedBits : List Cond := .code yHA_refusedBits cHA_refusedBits 4 ((Option.some .int)) :: TW
theorem kcHA_refusedBits : Cond.code yHA_refusedBits cHA_refusedBits 4 ((Option.some .int)) ∈ TW := twm (by decide +kernel) (by decide +kernel)
abbrev cJI_bitCount : ByteArray := prog_10_method_49_code
def yJI_bitCount : MethodName := ⟨nJI, "bitCount", "(I)I"⟩
abbrev wJI_bitCount : List Cond := .code yJI_bitCount cJI_bitCount 1 ((Option.some .int)) :: TW
theorem kcJI_bitCount : Cond.code yJI_bitCount cJI_bitCount 1 ((Option.some .int)) ∈ TW := twm (by decide +kernel) (by decide +kernel)
abbrev cGH_both : ByteArray := prog_1_method_9_code
def yGH_both : MethodName := ⟨nGH, "both", "(II)I"⟩
abbrev wGH_both : List Cond := .code yGH_both cGH_both 7 ((Option.some .int)) :: TW
theorem kcGH_both : Cond.code yGH_both cGH_both 7 ((Option.some .int)) ∈ TW := twm (by decide +kernel) (by decide +kernel)
abbrev cGH_centre : ByteArray := prog_1_method_10_code
def yGH_centre : MethodName := ⟨nGH, "centre", "(I)I"⟩
abbrev wGH_centre : List Cond := .code yGH_centre cGH_centre 5 ((Option.some .int)) :: TW
theorem kcGH_centre : Cond.code yGH_centre cGH_centre 5 ((Option.some .int)) ∈ TW := twm (by decide +kernel) (by decide +kernel)
abbrev cGH_within : ByteArray := prog_1_method_11_code
def yGH_within : MethodName := ⟨nGH, "within", "(II)Z"⟩
abbrev wGH_within : List Cond := .code yGH_within cGH_within 6 ((Option.some .boolean)) :: TW
theorem kcGH_within : Cond.code yGH_within cGH_within 6 ((Option.some .boolean)) ∈ TW := twm (by decide +kernel) (by decide +kernel)
abbrev cGH_orbit : ByteArray := prog_1_method_12_code
def yGH_orbit : MethodName := ⟨nGH, "orbit", "(III)I"⟩
abbrev wGH_orbit : List Cond := .code yGH_orbit cGH_orbit 5 ((Option.some .int)) :: TW
theorem kcGH_orbit : Cond.code yGH_orbit cGH_orbit 5 ((Option.some .int)) ∈ TW := twm (by decide +kernel) (by decide +kernel)
abbrev cGH_gatherOrbit : ByteArray := prog_1_method_18_code
def yGH_gatherOrbit : MethodName := ⟨nGH, "gatherOrbit", "(LGroupHalls$Row;I)V"⟩
abbrev wGH_gatherOrbit : List Cond := .code yGH_gatherOrbit cGH_gatherOrbit 4 ((Option.none : Option Jvm.ClassFile.FieldType)) :: TW
theorem kcGH_gatherOrbit : Cond.code yGH_gatherOrbit cGH_gatherOrbit 4 ((Option.none : Option Jvm.ClassFile.FieldType)) ∈ TW := twm (by decide +kernel) (by decide +kernel)
abbrev cBE_moved : ByteArray := prog_3_method_5_code
def yBE_moved : MethodName := ⟨nBE, "moved", "(II)I"⟩
abbrev wBE_moved : List Cond := .code yBE_moved cBE_moved 3 ((Option.some .int)) :: TW
theorem kcBE_moved : Cond.code yBE_moved cBE_moved 3 ((Option.some .int)) ∈ TW := twm (by decide +kernel) (by decide +kernel)
abbrev cGH_gatherKeepers : ByteArray := prog_1_method_19_code
def yGH_gatherKeepers : MethodName := ⟨nGH, "gatherKeepers", "(LGroupHalls$Row;I)V"⟩
abbrev wGH_gatherKeepers : List Cond := .code yGH_gatherKeepers cGH_gatherKeepers 5 ((Option.none : Option Jvm.ClassFile.FieldType)) :: TW
theorem kcGH_gatherKeepers : Cond.code yGH_gatherKeepers cGH_gatherKeepers 5 ((Option.none : Option Jvm.ClassFile.FieldType)) ∈ TW := twm (by decide +kernel) (by decide +kernel)
abbrev cGH_keepers : ByteArray := prog_1_method_13_code
def yGH_keepers : MethodName := ⟨nGH, "keepers", "(II)I"⟩
abbrev wGH_keepers : List Cond := .code yGH_keepers cGH_keepers 4 ((Option.some .int)) :: TW
theorem kcGH_keepers : Cond.code yGH_keepers cGH_keepers 4 ((Option.some .int)) ∈ TW := twm (by decide +kernel) (by decide +kernel)
abbrev cMO_init : ByteArray := prog_9_method_1_code
def yMO_init : MethodName := ⟨nMO, "<init>", "()V"⟩
abbrev wMO_init : List Cond := .code yMO_init cMO_init 1 ((Option.none : Option Jvm.ClassFile.FieldType)) :: TW
theorem kcMO_init : Cond.code yMO_init cMO_init 1 ((Option.none : Option Jvm.ClassFile.FieldType)) ∈ TW := twm (by decide +kernel) (by decide +kernel)
abbrev cMO_choose : ByteArray := prog_9_method_10_code
def yMO_choose : MethodName := ⟨nMO, "choose", "(II)I"⟩
abbrev wMO_choose : List Cond := .code yMO_choose cMO_choose 4 ((Option.some .int)) :: TW
theorem kcMO_choose : Cond.code yMO_choose cMO_choose 4 ((Option.some .int)) ∈ TW := twm (by decide +kernel) (by decide +kernel)
abbrev cMO_open : ByteArray := prog_9_method_3_code
def yMO_open : MethodName := ⟨nMO, "open", "(I[I[I)V"⟩
abbrev wMO_open : List Cond := .code yMO_open cMO_open 6 ((Option.none : Option Jvm.ClassFile.FieldType)) :: TW
theorem kcMO_open : Cond.code yMO_open cMO_open 6 ((Option.none : Option Jvm.ClassFile.FieldType)) ∈ TW := twm (by decide +kernel) (by decide +kernel)
abbrev cMO_determinant : ByteArray := prog_9_method_4_code
def yMO_determinant : MethodName := ⟨nMO, "determinant", "([I)I"⟩
abbrev wMO_determinant : List Cond := .code yMO_determinant cMO_determinant 1 ((Option.some .int)) :: TW
theorem kcMO_determinant : Cond.code yMO_determinant cMO_determinant 1 ((Option.some .int)) ∈ TW := twm (by decide +kernel) (by decide +kernel)
abbrev cMO_group : ByteArray := prog_9_method_13_code
def yMO_group : MethodName := ⟨nMO, "group", "()I"⟩
abbrev wMO_group : List Cond := .code yMO_group cMO_group 5 ((Option.some .int)) :: TW
theorem kcMO_group : Cond.code yMO_group cMO_group 5 ((Option.some .int)) ∈ TW := twm (by decide +kernel) (by decide +kernel)
abbrev cMO_identity : ByteArray := prog_9_method_8_code
def yMO_identity : MethodName := ⟨nMO, "identity", "()I"⟩
abbrev wMO_identity : List Cond := .code yMO_identity cMO_identity 2 ((Option.some .int)) :: TW
theorem kcMO_identity : Cond.code yMO_identity cMO_identity 2 ((Option.some .int)) ∈ TW := twm (by decide +kernel) (by decide +kernel)
abbrev cMO_times : ByteArray := prog_9_method_6_code
def yMO_times : MethodName := ⟨nMO, "times", "(II)I"⟩
abbrev wMO_times : List Cond := .code yMO_times cMO_times 5 ((Option.some .int)) :: TW
theorem kcMO_times : Cond.code yMO_times cMO_times 5 ((Option.some .int)) ∈ TW := twm (by decide +kernel) (by decide +kernel)
abbrev cMO_closed : ByteArray := prog_9_method_5_code
def yMO_closed : MethodName := ⟨nMO, "closed", "([I[I)I"⟩
abbrev wMO_closed : List Cond := .code yMO_closed cMO_closed 4 ((Option.some .int)) :: TW
theorem kcMO_closed : Cond.code yMO_closed cMO_closed 4 ((Option.some .int)) ∈ TW := twm (by decide +kernel) (by decide +kernel)
abbrev cMO_isListed : ByteArray := prog_9_method_11_code
def yMO_isListed : MethodName := ⟨nMO, "isListed", "(I)Z"⟩
abbrev wMO_isListed : List Cond := .code yMO_isListed cMO_isListed 3 ((Option.some .boolean)) :: TW
theorem kcMO_isListed : Cond.code yMO_isListed cMO_isListed 3 ((Option.some .boolean)) ∈ TW := twm (by decide +kernel) (by decide +kernel)
abbrev cMO_numbered : ByteArray := prog_9_method_12_code
def yMO_numbered : MethodName := ⟨nMO, "numbered", "()I"⟩
abbrev wMO_numbered : List Cond := .code yMO_numbered cMO_numbered 4 ((Option.some .int)) :: TW
theorem kcMO_numbered : Cond.code yMO_numbered cMO_numbered 4 ((Option.some .int)) ∈ TW := twm (by decide +kernel) (by decide +kernel)
abbrev cMO_about : ByteArray := prog_9_method_29_code
def yMO_about : MethodName := ⟨nMO, "about", "(II)I"⟩
abbrev wMO_about : List Cond := .code yMO_about cMO_about 3 ((Option.some .int)) :: TW
theorem kcMO_about : Cond.code yMO_about cMO_about 3 ((Option.some .int)) ∈ TW := twm (by decide +kernel) (by decide +kernel)
abbrev cMO_isGroup : ByteArray := prog_9_method_9_code
def yMO_isGroup : MethodName := ⟨nMO, "isGroup", "(I)Z"⟩
abbrev wMO_isGroup : List Cond := .code yMO_isGroup cMO_isGroup 2 ((Option.some .boolean)) :: TW
theorem kcMO_isGroup : Cond.code yMO_isGroup cMO_isGroup 2 ((Option.some .boolean)) ∈ TW := twm (by decide +kernel) (by decide +kernel)
abbrev cMO_matrices : ByteArray := prog_9_method_17_code
def yMO_matrices : MethodName := ⟨nMO, "matrices", "(I)I"⟩
abbrev wMO_matrices : List Cond := .code yMO_matrices cMO_matrices 4 ((Option.some .int)) :: TW
theorem kcMO_matrices : Cond.code yMO_matrices cMO_matrices 4 ((Option.some .int)) ∈ TW := twm (by decide +kernel) (by decide +kernel)
abbrev cMO_centrings : ByteArray := prog_9_method_20_code
def yMO_centrings : MethodName := ⟨nMO, "centrings", "(I)I"⟩
abbrev wMO_centrings : List Cond := .code yMO_centrings cMO_centrings 5 ((Option.some .int)) :: TW
theorem kcMO_centrings : Cond.code yMO_centrings cMO_centrings 5 ((Option.some .int)) ∈ TW := twm (by decide +kernel) (by decide +kernel)
abbrev cMO_letterOf : ByteArray := prog_9_method_19_code
def yMO_letterOf : MethodName := ⟨nMO, "letterOf", "(II)I"⟩
abbrev wMO_letterOf : List Cond := .code yMO_letterOf cMO_letterOf 6 ((Option.some .int)) :: TW
theorem kcMO_letterOf : Cond.code yMO_letterOf cMO_letterOf 6 ((Option.some .int)) ∈ TW := twm (by decide +kernel) (by decide +kernel)
abbrev cMO_hasShift : ByteArray := prog_9_method_18_code
def yMO_hasShift : MethodName := ⟨nMO, "hasShift", "(II)Z"⟩
abbrev wMO_hasShift : List Cond := .code yMO_hasShift cMO_hasShift 3 ((Option.some .boolean)) :: TW
theorem kcMO_hasShift : Cond.code yMO_hasShift cMO_hasShift 3 ((Option.some .boolean)) ∈ TW := twm (by decide +kernel) (by decide +kernel)
abbrev cMO_place : ByteArray := prog_9_method_14_code
def yMO_place : MethodName := ⟨nMO, "place", "(II)I"⟩
abbrev wMO_place : List Cond := .code yMO_place cMO_place 6 ((Option.some .int)) :: TW
theorem kcMO_place : Cond.code yMO_place cMO_place 6 ((Option.some .int)) ∈ TW := twm (by decide +kernel) (by decide +kernel)
abbrev cMO_classOf : ByteArray := prog_9_method_15_code
def yMO_classOf : MethodName := ⟨nMO, "classOf", "([III)I"⟩
abbrev wMO_classOf : List Cond := .code yMO_classOf cMO_classOf 7 ((Option.some .int)) :: TW
theorem kcMO_classOf : Cond.code yMO_classOf cMO_classOf 7 ((Option.some .int)) ∈ TW := twm (by decide +kernel) (by decide +kernel)
abbrev cMO_sortOf : ByteArray := prog_9_method_7_code
def yMO_sortOf : MethodName := ⟨nMO, "sortOf", "([I)I"⟩
abbrev wMO_sortOf : List Cond := .code yMO_sortOf cMO_sortOf 5 ((Option.some .int)) :: TW
theorem kcMO_sortOf : Cond.code yMO_sortOf cMO_sortOf 5 ((Option.some .int)) ∈ TW := twm (by decide +kernel) (by decide +kernel)
abbrev cMO_classBy : ByteArray := prog_9_method_16_code
def yMO_classBy : MethodName := ⟨nMO, "classBy", "(II)I"⟩
abbrev wMO_classBy : List Cond := .code yMO_classBy cMO_classBy 2 ((Option.some .int)) :: TW
theorem kcMO_classBy : Cond.code yMO_classBy cMO_classBy 2 ((Option.some .int)) ∈ TW := twm (by decide +kernel) (by decide +kernel)
abbrev cMO_know : ByteArray := prog_9_method_21_code
def yMO_know : MethodName := ⟨nMO, "know", "(I)V"⟩
abbrev wMO_know : List Cond := .code yMO_know cMO_know 5 ((Option.none : Option Jvm.ClassFile.FieldType)) :: TW
theorem kcMO_know : Cond.code yMO_know cMO_know 5 ((Option.none : Option Jvm.ClassFile.FieldType)) ∈ TW := twm (by decide +kernel) (by decide +kernel)
abbrev cMO_countAlike : ByteArray := prog_9_method_22_code
def yMO_countAlike : MethodName := ⟨nMO, "countAlike", "(II)I"⟩
abbrev wMO_countAlike : List Cond := .code yMO_countAlike cMO_countAlike 8 ((Option.some .int)) :: TW
theorem kcMO_countAlike : Cond.code yMO_countAlike cMO_countAlike 8 ((Option.some .int)) ∈ TW := twm (by decide +kernel) (by decide +kernel)
abbrev cMO_gatherHalves : ByteArray := prog_9_method_24_code
def yMO_gatherHalves : MethodName := ⟨nMO, "gatherHalves", "(II)V"⟩
abbrev wMO_gatherHalves : List Cond := .code yMO_gatherHalves cMO_gatherHalves 8 ((Option.none : Option Jvm.ClassFile.FieldType)) :: TW
theorem kcMO_gatherHalves : Cond.code yMO_gatherHalves cMO_gatherHalves 8 ((Option.none : Option Jvm.ClassFile.FieldType)) ∈ TW := twm (by decide +kernel) (by decide +kernel)
abbrev cMO_made : ByteArray := prog_9_method_23_code
def yMO_made : MethodName := ⟨nMO, "made", "(II)I"⟩
abbrev wMO_made : List Cond := .code yMO_made cMO_made 7 ((Option.some .int)) :: TW
theorem kcMO_made : Cond.code yMO_made cMO_made 7 ((Option.some .int)) ∈ TW := twm (by decide +kernel) (by decide +kernel)
abbrev cMO_isHalf : ByteArray := prog_9_method_25_code
def yMO_isHalf : MethodName := ⟨nMO, "isHalf", "(IIII)Z"⟩
abbrev wMO_isHalf : List Cond := .code yMO_isHalf cMO_isHalf 10 ((Option.some .boolean)) :: TW
theorem kcMO_isHalf : Cond.code yMO_isHalf cMO_isHalf 10 ((Option.some .boolean)) ∈ TW := twm (by decide +kernel) (by decide +kernel)
abbrev cMO_keepHalf : ByteArray := prog_9_method_26_code
def yMO_keepHalf : MethodName := ⟨nMO, "keepHalf", "(II)V"⟩
abbrev wMO_keepHalf : List Cond := .code yMO_keepHalf cMO_keepHalf 12 ((Option.none : Option Jvm.ClassFile.FieldType)) :: TW
theorem kcMO_keepHalf : Cond.code yMO_keepHalf cMO_keepHalf 12 ((Option.none : Option Jvm.ClassFile.FieldType)) ∈ TW := twm (by decide +kernel) (by decide +kernel)
abbrev cMO_comesAhead : ByteArray := prog_9_method_28_code
def yMO_comesAhead : MethodName := ⟨nMO, "comesAhead", "(JJJI)Z"⟩
abbrev wMO_comesAhead : List Cond := .code yMO_comesAhead cMO_comesAhead 8 ((Option.some .boolean)) :: TW
theorem kcMO_comesAhead : Cond.code yMO_comesAhead cMO_comesAhead 8 ((Option.some .boolean)) ∈ TW := twm (by decide +kernel) (by decide +kernel)
abbrev cMO_isGreater : ByteArray := prog_9_method_27_code
def yMO_isGreater : MethodName := ⟨nMO, "isGreater", "(JJ)Z"⟩
abbrev wMO_isGreater : List Cond := .code yMO_isGreater cMO_isGreater 4 ((Option.some .boolean)) :: TW
theorem kcMO_isGreater : Cond.code yMO_isGreater cMO_isGreater 4 ((Option.some .boolean)) ∈ TW := twm (by decide +kernel) (by decide +kernel)
abbrev cMO_of : ByteArray := prog_9_method_31_code
def yMO_of : MethodName := ⟨nMO, "of", "(III)I"⟩
abbrev wMO_of : List Cond := .code yMO_of cMO_of 7 ((Option.some .int)) :: TW
theorem kcMO_of : Cond.code yMO_of cMO_of 7 ((Option.some .int)) ∈ TW := twm (by decide +kernel) (by decide +kernel)
abbrev cMO_isMember : ByteArray := prog_9_method_30_code
def yMO_isMember : MethodName := ⟨nMO, "isMember", "(II)Z"⟩
abbrev wMO_isMember : List Cond := .code yMO_isMember cMO_isMember 3 ((Option.some .boolean)) :: TW
theorem kcMO_isMember : Cond.code yMO_isMember cMO_isMember 3 ((Option.some .boolean)) ∈ TW := twm (by decide +kernel) (by decide +kernel)
abbrev cMO_product : ByteArray := prog_9_method_32_code
def yMO_product : MethodName := ⟨nMO, "product", "(III)I"⟩
abbrev wMO_product : List Cond := .code yMO_product cMO_product 4 ((Option.some .int)) :: TW
theorem kcMO_product : Cond.code yMO_product cMO_product 4 ((Option.some .int)) ∈ TW := twm (by decide +kernel) (by decide +kernel)
abbrev cMO_find : ByteArray := prog_9_method_33_code
def yMO_find : MethodName := ⟨nMO, "find", "(III)I"⟩
abbrev wMO_find : List Cond := .code yMO_find cMO_find 4 ((Option.some .int)) :: TW
theorem kcMO_find : Cond.code yMO_find cMO_find 4 ((Option.some .int)) ∈ TW := twm (by decide +kernel) (by decide +kernel)
abbrev cMO_half : ByteArray := prog_9_method_34_code
def yMO_half : MethodName := ⟨nMO, "half", "(II)I"⟩
abbrev wMO_half : List Cond := .code yMO_half cMO_half 4 ((Option.some .int)) :: TW
theorem kcMO_half : Cond.code yMO_half cMO_half 4 ((Option.some .int)) ∈ TW := twm (by decide +kernel) (by decide +kernel)
abbrev cMO_both : ByteArray := prog_9_method_35_code
def yMO_both : MethodName := ⟨nMO, "both", "(II)I"⟩
abbrev wMO_both : List Cond := .code yMO_both cMO_both 4 ((Option.some .int)) :: TW
theorem kcMO_both : Cond.code yMO_both cMO_both 4 ((Option.some .int)) ∈ TW := twm (by decide +kernel) (by decide +kernel)
abbrev cMO_centre : ByteArray := prog_9_method_36_code
def yMO_centre : MethodName := ⟨nMO, "centre", "(I)I"⟩
abbrev wMO_centre : List Cond := .code yMO_centre cMO_centre 3 ((Option.some .int)) :: TW
theorem kcMO_centre : Cond.code yMO_centre cMO_centre 3 ((Option.some .int)) ∈ TW := twm (by decide +kernel) (by decide +kernel)
abbrev cMO_within : ByteArray := prog_9_method_37_code
def yMO_within : MethodName := ⟨nMO, "within", "(II)Z"⟩
abbrev wMO_within : List Cond := .code yMO_within cMO_within 4 ((Option.some .boolean)) :: TW
theorem kcMO_within : Cond.code yMO_within cMO_within 4 ((Option.some .boolean)) ∈ TW := twm (by decide +kernel) (by decide +kernel)
abbrev cMO_orbit : ByteArray := prog_9_method_41_code
def yMO_orbit : MethodName := ⟨nMO, "orbit", "(III)I"⟩
abbrev wMO_orbit : List Cond := .code yMO_orbit cMO_orbit 5 ((Option.some .int)) :: TW
theorem kcMO_orbit : Cond.code yMO_orbit cMO_orbit 5 ((Option.some .int)) ∈ TW := twm (by decide +kernel) (by decide +kernel)
abbrev cMO_keepersOf : ByteArray := prog_9_method_40_code
def yMO_keepersOf : MethodName := ⟨nMO, "keepersOf", "(II)I"⟩
abbrev wMO_keepersOf : List Cond := .code yMO_keepersOf cMO_keepersOf 5 ((Option.some .int)) :: TW
theorem kcMO_keepersOf : Cond.code yMO_keepersOf cMO_keepersOf 5 ((Option.some .int)) ∈ TW := twm (by decide +kernel) (by decide +kernel)
abbrev cMO_taken : ByteArray := prog_9_method_38_code
def yMO_taken : MethodName := ⟨nMO, "taken", "(II)I"⟩
abbrev wMO_taken : List Cond := .code yMO_taken cMO_taken 9 ((Option.some .int)) :: TW
theorem kcMO_taken : Cond.code yMO_taken cMO_taken 9 ((Option.some .int)) ∈ TW := twm (by decide +kernel) (by decide +kernel)
abbrev cMO_orbitOf : ByteArray := prog_9_method_39_code
def yMO_orbitOf : MethodName := ⟨nMO, "orbitOf", "(II)I"⟩
abbrev wMO_orbitOf : List Cond := .code yMO_orbitOf cMO_orbitOf 8 ((Option.some .int)) :: TW
theorem kcMO_orbitOf : Cond.code yMO_orbitOf cMO_orbitOf 8 ((Option.some .int)) ∈ TW := twm (by decide +kernel) (by decide +kernel)
abbrev cMO_keepers : ByteArray := prog_9_method_42_code
def yMO_keepers : MethodName := ⟨nMO, "keepers", "(II)I"⟩
abbrev wMO_keepers : List Cond := .code yMO_keepers cMO_keepers 4 ((Option.some .int)) :: TW
theorem kcMO_keepers : Cond.code yMO_keepers cMO_keepers 4 ((Option.some .int)) ∈ TW := twm (by decide +kernel) (by decide +kernel)
theorem iniLW : Cond.initialized nLW ∈ TW := twm (by decide +kernel) (by decide +kernel)
theorem iniGH : Cond.initialized nGH ∈ TW := twm (by decide +kernel) (by decide +kernel)
theorem iniBE : Cond.initialized nBE ∈ TW := twm (by decide +kernel) (by decide +kernel)
theorem iniCL : Cond.initialized nCL ∈ TW := twm (by decide +kernel) (by decide +kernel)
theorem iniRO : Cond.initialized nRO ∈ TW := twm (by decide +kernel) (by decide +kernel)
theorem iniJM : Cond.initialized nJM ∈ TW := twm (by decide +kernel) (by decide +kernel)
theorem iniMO : Cond.initialized nMO ∈ TW := twm (by decide +kernel) (by decide +kernel)
theorem iniJS : Cond.initialized nJS ∈ TW := twm (by decide +kernel) (by decide +kernel)
theorem iniGR : Cond.initialized nGR ∈ TW := twm (by decide +kernel) (by decide +kernel)
theorem iniAS : Cond.initialized nAS ∈ TW := twm (by decide +kernel) (by decide +kernel)
theorem iniHA : Cond.initialized nHA ∈ TW := twm (by decide +kernel) (by decide +kernel)
theorem iniJI : Cond.initialized nJI ∈ TW := twm (by decide +kernel) (by decide +kernel)
theorem lkLW_7 : Cond.classLink nLW 7 nGH ∈ TW := twm (by decide +kernel) (by decide +kernel)
theorem insGH : Cond.instantiable nGH 7 ∈ TW := twm (by decide +kernel) (by decide +kernel)
theorem lkLW_9 : Cond.methodLink nLW 9 yGH_init ∈ TW := twm (by decide +kernel) (by decide +kernel)
theorem imGH_init : Cond.instanceMethod yGH_init ∈ TW := twm (by decide +kernel) (by decide +kernel)
theorem lkGH_3 : Cond.methodLink nGH 3 objectInit ∈ TW := twm (by decide +kernel) (by decide +kernel)
theorem imJO_init : Cond.instanceMethod objectInit ∈ TW := twm (by decide +kernel) (by decide +kernel)
theorem lkGH_9 : Cond.classLink nGH 9 nGR ∈ TW := twm (by decide +kernel) (by decide +kernel)
theorem lkGH_26 : Cond.classLink nGH 26 nBE ∈ TW := twm (by decide +kernel) (by decide +kernel)
theorem insBE : Cond.instantiable nBE 2 ∈ TW := twm (by decide +kernel) (by decide +kernel)
theorem imBE_init : Cond.instanceMethod yBE_init ∈ TW := twm (by decide +kernel) (by decide +kernel)
theorem lkBE_3 : Cond.methodLink nBE 3 objectInit ∈ TW := twm (by decide +kernel) (by decide +kernel)
theorem lkBE_9 : Cond.fieldLink nBE 9 "GroupHalls$Bench" "left" "[I" ∈ TW := twm (by decide +kernel) (by decide +kernel)
theorem lkBE_15 : Cond.fieldLink nBE 15 "GroupHalls$Bench" "right" "[I" ∈ TW := twm (by decide +kernel) (by decide +kernel)
theorem ac_int : Cond.arrayClass .int ∈ TW := twm (by decide +kernel) (by decide +kernel)
theorem lkGH_33 : Cond.classLink nGH 33 nCL ∈ TW := twm (by decide +kernel) (by decide +kernel)
theorem insCL : Cond.instantiable nCL 6 ∈ TW := twm (by decide +kernel) (by decide +kernel)
theorem lkGH_35 : Cond.methodLink nGH 35 yCL_init ∈ TW := twm (by decide +kernel) (by decide +kernel)
theorem imCL_init : Cond.instanceMethod yCL_init ∈ TW := twm (by decide +kernel) (by decide +kernel)
theorem lkCL_3 : Cond.methodLink nCL 3 objectInit ∈ TW := twm (by decide +kernel) (by decide +kernel)
theorem lkCL_9 : Cond.classLink nCL 9 nRO ∈ TW := twm (by decide +kernel) (by decide +kernel)
theorem insRO : Cond.instantiable nRO 2 ∈ TW := twm (by decide +kernel) (by decide +kernel)
theorem lkCL_11 : Cond.methodLink nCL 11 yRO_init ∈ TW := twm (by decide +kernel) (by decide +kernel)
theorem imRO_init : Cond.instanceMethod yRO_init ∈ TW := twm (by decide +kernel) (by decide +kernel)
theorem lkRO_3 : Cond.methodLink nRO 3 objectInit ∈ TW := twm (by decide +kernel) (by decide +kernel)
theorem lkRO_15 : Cond.methodLink nRO 15 yJM_max ∈ TW := twm (by decide +kernel) (by decide +kernel)
theorem smJM_max : Cond.static yJM_max ∈ TW := twm (by decide +kernel) (by decide +kernel)
theorem lkRO_21 : Cond.fieldLink nRO 21 "GroupHalls$Row" "numbers" "[I" ∈ TW := twm (by decide +kernel) (by decide +kernel)
theorem lkRO_9 : Cond.fieldLink nRO 9 "GroupHalls$Row" "size" "I" ∈ TW := twm (by decide +kernel) (by decide +kernel)
theorem lkCL_34 : Cond.fieldLink nCL 34 "GroupHalls$Closure" "bench" "LGroupHalls$Bench;" ∈ TW := twm (by decide +kernel) (by decide +kernel)
theorem lkCL_14 : Cond.fieldLink nCL 14 "GroupHalls$Closure" "found" "LGroupHalls$Row;" ∈ TW := twm (by decide +kernel) (by decide +kernel)
theorem lkCL_20 : Cond.fieldLink nCL 20 "GroupHalls$Closure" "came" "[I" ∈ TW := twm (by decide +kernel) (by decide +kernel)
theorem lkCL_24 : Cond.fieldLink nCL 24 "GroupHalls$Closure" "cameCount" "I" ∈ TW := twm (by decide +kernel) (by decide +kernel)
theorem lkCL_28 : Cond.fieldLink nCL 28 "GroupHalls$Closure" "generators" "[I" ∈ TW := twm (by decide +kernel) (by decide +kernel)
theorem lkCL_31 : Cond.fieldLink nCL 31 "GroupHalls$Closure" "generatorCount" "I" ∈ TW := twm (by decide +kernel) (by decide +kernel)
theorem lkGH_42 : Cond.classLink nGH 42 nRO ∈ TW := twm (by decide +kernel) (by decide +kernel)
theorem lkGH_44 : Cond.methodLink nGH 44 yRO_init ∈ TW := twm (by decide +kernel) (by decide +kernel)
theorem lkGH_11 : Cond.fieldLink nGH 11 "GroupHalls" "halls" "[LGroupHalls$Group;" ∈ TW := twm (by decide +kernel) (by decide +kernel)
theorem lkGH_15 : Cond.fieldLink nGH 15 "GroupHalls" "made" "I" ∈ TW := twm (by decide +kernel) (by decide +kernel)
theorem lkGH_19 : Cond.fieldLink nGH 19 "GroupHalls" "chosen" "[I" ∈ TW := twm (by decide +kernel) (by decide +kernel)
theorem lkGH_23 : Cond.fieldLink nGH 23 "GroupHalls" "chosenCount" "I" ∈ TW := twm (by decide +kernel) (by decide +kernel)
theorem lkGH_29 : Cond.fieldLink nGH 29 "GroupHalls" "bench" "LGroupHalls$Bench;" ∈ TW := twm (by decide +kernel) (by decide +kernel)
theorem lkGH_38 : Cond.fieldLink nGH 38 "GroupHalls" "closure" "LGroupHalls$Closure;" ∈ TW := twm (by decide +kernel) (by decide +kernel)
theorem lkGH_47 : Cond.fieldLink nGH 47 "GroupHalls" "gathered" "LGroupHalls$Row;" ∈ TW := twm (by decide +kernel) (by decide +kernel)
theorem lkLW_13 : Cond.methodLink nLW 13 yGH_choose ∈ TW := twm (by decide +kernel) (by decide +kernel)
theorem imGH_choose : Cond.instanceMethod yGH_choose ∈ TW := twm (by decide +kernel) (by decide +kernel)
theorem seGH_choose : Cond.selects nGH yGH_choose yGH_choose ∈ TW := twm (by decide +kernel) (by decide +kernel)
theorem lkGH_51 : Cond.methodLink nGH 51 yGH_isNine ∈ TW := twm (by decide +kernel) (by decide +kernel)
theorem smGH_isNine : Cond.static yGH_isNine ∈ TW := twm (by decide +kernel) (by decide +kernel)
theorem lkGH_55 : Cond.methodLink nGH 55 yGH_isPlace ∈ TW := twm (by decide +kernel) (by decide +kernel)
theorem smGH_isPlace : Cond.static yGH_isPlace ∈ TW := twm (by decide +kernel) (by decide +kernel)
theorem lkGH_58 : Cond.methodLink nGH 58 yBE_determinant ∈ TW := twm (by decide +kernel) (by decide +kernel)
theorem imBE_determinant : Cond.instanceMethod yBE_determinant ∈ TW := twm (by decide +kernel) (by decide +kernel)
theorem seBE_determinant : Cond.selects nBE yBE_determinant yBE_determinant ∈ TW := twm (by decide +kernel) (by decide +kernel)
theorem lkBE_18 : Cond.methodLink nBE 18 yBE_read ∈ TW := twm (by decide +kernel) (by decide +kernel)
theorem smBE_read : Cond.static yBE_read ∈ TW := twm (by decide +kernel) (by decide +kernel)
theorem lkLW_18 : Cond.methodLink nLW 18 yGH_group ∈ TW := twm (by decide +kernel) (by decide +kernel)
theorem imGH_group : Cond.instanceMethod yGH_group ∈ TW := twm (by decide +kernel) (by decide +kernel)
theorem seGH_group : Cond.selects nGH yGH_group yGH_group ∈ TW := twm (by decide +kernel) (by decide +kernel)
theorem lkGH_62 : Cond.methodLink nGH 62 yCL_start ∈ TW := twm (by decide +kernel) (by decide +kernel)
theorem imCL_start : Cond.instanceMethod yCL_start ∈ TW := twm (by decide +kernel) (by decide +kernel)
theorem seCL_start : Cond.selects nCL yCL_start yCL_start ∈ TW := twm (by decide +kernel) (by decide +kernel)
theorem lkCL_38 : Cond.methodLink nCL 38 yRO_clear ∈ TW := twm (by decide +kernel) (by decide +kernel)
theorem imRO_clear : Cond.instanceMethod yRO_clear ∈ TW := twm (by decide +kernel) (by decide +kernel)
theorem seRO_clear : Cond.selects nRO yRO_clear yRO_clear ∈ TW := twm (by decide +kernel) (by decide +kernel)
theorem lkCL_41 : Cond.constant nCL 41 227874816 ∈ TW := twm (by decide +kernel) (by decide +kernel)
theorem lkCL_42 : Cond.methodLink nCL 42 yRO_add ∈ TW := twm (by decide +kernel) (by decide +kernel)
theorem imRO_add : Cond.instanceMethod yRO_add ∈ TW := twm (by decide +kernel) (by decide +kernel)
theorem seRO_add : Cond.selects nRO yRO_add yRO_add ∈ TW := twm (by decide +kernel) (by decide +kernel)
theorem lkRO_29 : Cond.methodLink nRO 29 yRO_firstNotBelow ∈ TW := twm (by decide +kernel) (by decide +kernel)
theorem seRO_firstNotBelow : Cond.selects nRO yRO_firstNotBelow yRO_firstNotBelow ∈ TW := twm (by decide +kernel) (by decide +kernel)
theorem imRO_firstNotBelow : Cond.instanceMethod yRO_firstNotBelow ∈ TW := twm (by decide +kernel) (by decide +kernel)
theorem lkRO_32 : Cond.methodLink nRO 32 yRO_at ∈ TW := twm (by decide +kernel) (by decide +kernel)
theorem imRO_at : Cond.instanceMethod yRO_at ∈ TW := twm (by decide +kernel) (by decide +kernel)
theorem seRO_at : Cond.selects nRO yRO_at yRO_at ∈ TW := twm (by decide +kernel) (by decide +kernel)
theorem lkRO_35 : Cond.methodLink nRO 35 ⟨nJS, "arraycopy", "(Ljava/lang/Object;ILjava/lang/Object;II)V"⟩ ∈ TW := twm (by decide +kernel) (by decide +kernel)
theorem smJS_arraycopy : Cond.static ⟨nJS, "arraycopy", "(Ljava/lang/Object;ILjava/lang/Object;II)V"⟩ ∈ TW := twm (by decide +kernel) (by decide +kernel)
theorem nvJS_arraycopy : Cond.native ⟨nJS, "arraycopy", "(Ljava/lang/Object;ILjava/lang/Object;II)V"⟩ ∈ TW := twm (by decide +kernel) (by decide +kernel)
theorem lkGH_65 : Cond.methodLink nGH 65 yCL_take ∈ TW := twm (by decide +kernel) (by decide +kernel)
theorem imCL_take : Cond.instanceMethod yCL_take ∈ TW := twm (by decide +kernel) (by decide +kernel)
theorem seCL_take : Cond.selects nCL yCL_take yCL_take ∈ TW := twm (by decide +kernel) (by decide +kernel)
theorem lkCL_46 : Cond.methodLink nCL 46 yRO_has ∈ TW := twm (by decide +kernel) (by decide +kernel)
theorem imRO_has : Cond.instanceMethod yRO_has ∈ TW := twm (by decide +kernel) (by decide +kernel)
theorem seRO_has : Cond.selects nRO yRO_has yRO_has ∈ TW := twm (by decide +kernel) (by decide +kernel)
theorem lkRO_25 : Cond.methodLink nRO 25 yRO_indexOf ∈ TW := twm (by decide +kernel) (by decide +kernel)
theorem imRO_indexOf : Cond.instanceMethod yRO_indexOf ∈ TW := twm (by decide +kernel) (by decide +kernel)
theorem seRO_indexOf : Cond.selects nRO yRO_indexOf yRO_indexOf ∈ TW := twm (by decide +kernel) (by decide +kernel)
theorem lkCL_49 : Cond.methodLink nCL 49 yJM_max ∈ TW := twm (by decide +kernel) (by decide +kernel)
theorem lkCL_55 : Cond.methodLink nCL 55 yCL_addCoset ∈ TW := twm (by decide +kernel) (by decide +kernel)
theorem seCL_addCoset : Cond.selects nCL yCL_addCoset yCL_addCoset ∈ TW := twm (by decide +kernel) (by decide +kernel)
theorem imCL_addCoset : Cond.instanceMethod yCL_addCoset ∈ TW := twm (by decide +kernel) (by decide +kernel)
theorem lkCL_63 : Cond.methodLink nCL 63 yBE_times ∈ TW := twm (by decide +kernel) (by decide +kernel)
theorem imBE_times : Cond.instanceMethod yBE_times ∈ TW := twm (by decide +kernel) (by decide +kernel)
theorem seBE_times : Cond.selects nBE yBE_times yBE_times ∈ TW := twm (by decide +kernel) (by decide +kernel)
theorem lkBE_29 : Cond.methodLink nBE 29 yBE_movedByLeft ∈ TW := twm (by decide +kernel) (by decide +kernel)
theorem seBE_movedByLeft : Cond.selects nBE yBE_movedByLeft yBE_movedByLeft ∈ TW := twm (by decide +kernel) (by decide +kernel)
theorem imBE_movedByLeft : Cond.instanceMethod yBE_movedByLeft ∈ TW := twm (by decide +kernel) (by decide +kernel)
theorem lkCL_59 : Cond.methodLink nCL 59 yCL_generator ∈ TW := twm (by decide +kernel) (by decide +kernel)
theorem imCL_generator : Cond.instanceMethod yCL_generator ∈ TW := twm (by decide +kernel) (by decide +kernel)
theorem seCL_generator : Cond.selects nCL yCL_generator yCL_generator ∈ TW := twm (by decide +kernel) (by decide +kernel)
theorem lkGH_68 : Cond.methodLink nGH 68 yCL_found ∈ TW := twm (by decide +kernel) (by decide +kernel)
theorem imCL_found : Cond.instanceMethod yCL_found ∈ TW := twm (by decide +kernel) (by decide +kernel)
theorem seCL_found : Cond.selects nCL yCL_found yCL_found ∈ TW := twm (by decide +kernel) (by decide +kernel)
theorem lkGH_72 : Cond.methodLink nGH 72 yGH_numberOf ∈ TW := twm (by decide +kernel) (by decide +kernel)
theorem seGH_numberOf : Cond.selects nGH yGH_numberOf yGH_numberOf ∈ TW := twm (by decide +kernel) (by decide +kernel)
theorem imGH_numberOf : Cond.instanceMethod yGH_numberOf ∈ TW := twm (by decide +kernel) (by decide +kernel)
theorem lkGH_76 : Cond.methodLink nGH 76 yGH_hallAt ∈ TW := twm (by decide +kernel) (by decide +kernel)
theorem seGH_hallAt : Cond.selects nGH yGH_hallAt yGH_hallAt ∈ TW := twm (by decide +kernel) (by decide +kernel)
theorem imGH_hallAt : Cond.instanceMethod yGH_hallAt ∈ TW := twm (by decide +kernel) (by decide +kernel)
theorem lkGH_80 : Cond.methodLink nGH 80 yGR_keys ∈ TW := twm (by decide +kernel) (by decide +kernel)
theorem imGR_keys : Cond.instanceMethod yGR_keys ∈ TW := twm (by decide +kernel) (by decide +kernel)
theorem seGR_keys : Cond.selects nGR yGR_keys yGR_keys ∈ TW := twm (by decide +kernel) (by decide +kernel)
theorem lkGH_158 : Cond.methodLink nGH 158 yRO_isLike ∈ TW := twm (by decide +kernel) (by decide +kernel)
theorem imRO_isLike : Cond.instanceMethod yRO_isLike ∈ TW := twm (by decide +kernel) (by decide +kernel)
theorem seRO_isLike : Cond.selects nRO yRO_isLike yRO_isLike ∈ TW := twm (by decide +kernel) (by decide +kernel)
theorem insGR : Cond.instantiable nGR 7 ∈ TW := twm (by decide +kernel) (by decide +kernel)
theorem lkGH_162 : Cond.methodLink nGH 162 yGR_init ∈ TW := twm (by decide +kernel) (by decide +kernel)
theorem imGR_init : Cond.instanceMethod yGR_init ∈ TW := twm (by decide +kernel) (by decide +kernel)
theorem lkGR_3 : Cond.methodLink nGR 3 objectInit ∈ TW := twm (by decide +kernel) (by decide +kernel)
theorem lkGR_19 : Cond.classLink nGR 19 nRO ∈ TW := twm (by decide +kernel) (by decide +kernel)
theorem lkGR_21 : Cond.methodLink nGR 21 yRO_size ∈ TW := twm (by decide +kernel) (by decide +kernel)
theorem imRO_size : Cond.instanceMethod yRO_size ∈ TW := twm (by decide +kernel) (by decide +kernel)
theorem seRO_size : Cond.selects nRO yRO_size yRO_size ∈ TW := twm (by decide +kernel) (by decide +kernel)
theorem lkGR_25 : Cond.methodLink nGR 25 yRO_init ∈ TW := twm (by decide +kernel) (by decide +kernel)
theorem lkGR_32 : Cond.methodLink nGR 32 yRO_at ∈ TW := twm (by decide +kernel) (by decide +kernel)
theorem lkGR_36 : Cond.methodLink nGR 36 yRO_add ∈ TW := twm (by decide +kernel) (by decide +kernel)
theorem lkGR_47 : Cond.methodLink nGR 47 yGR_letterOf ∈ TW := twm (by decide +kernel) (by decide +kernel)
theorem smGR_letterOf : Cond.static yGR_letterOf ∈ TW := twm (by decide +kernel) (by decide +kernel)
theorem lkGR_69 : Cond.constant nGR 69 227874816 ∈ TW := twm (by decide +kernel) (by decide +kernel)
theorem lkGR_70 : Cond.methodLink nGR 70 yRO_indexOf ∈ TW := twm (by decide +kernel) (by decide +kernel)
theorem lkGR_73 : Cond.methodLink nGR 73 yGR_letterOfTwo ∈ TW := twm (by decide +kernel) (by decide +kernel)
theorem smGR_letterOfTwo : Cond.static yGR_letterOfTwo ∈ TW := twm (by decide +kernel) (by decide +kernel)
theorem smGH_classOf : Cond.static yGH_classOf ∈ TW := twm (by decide +kernel) (by decide +kernel)
theorem lkGH_83 : Cond.methodLink nGH 83 yRO_size ∈ TW := twm (by decide +kernel) (by decide +kernel)
theorem lkGH_115 : Cond.methodLink nGH 115 yRO_at ∈ TW := twm (by decide +kernel) (by decide +kernel)
theorem lkGH_118 : Cond.methodLink nGH 118 yBE_sort ∈ TW := twm (by decide +kernel) (by decide +kernel)
theorem imBE_sort : Cond.instanceMethod yBE_sort ∈ TW := twm (by decide +kernel) (by decide +kernel)
theorem seBE_sort : Cond.selects nBE yBE_sort yBE_sort ∈ TW := twm (by decide +kernel) (by decide +kernel)
theorem lkBE_22 : Cond.methodLink nBE 22 yBE_determinant ∈ TW := twm (by decide +kernel) (by decide +kernel)
theorem lkGH_168 : Cond.methodLink nGH 168 yGH_digitOf ∈ TW := twm (by decide +kernel) (by decide +kernel)
theorem smGH_digitOf : Cond.static yGH_digitOf ∈ TW := twm (by decide +kernel) (by decide +kernel)
theorem lkGH_174 : Cond.constant nGH 174 100000000 ∈ TW := twm (by decide +kernel) (by decide +kernel)
theorem lkGH_175 : Cond.constant nGH 175 10000000 ∈ TW := twm (by decide +kernel) (by decide +kernel)
theorem lkGH_176 : Cond.constant nGH 176 1000000 ∈ TW := twm (by decide +kernel) (by decide +kernel)
theorem lkGH_177 : Cond.constant nGH 177 100000 ∈ TW := twm (by decide +kernel) (by decide +kernel)
theorem lkGH_171 : Cond.fieldLink nGH 171 "GroupHalls" "CLASS_ROWS" "[I" ∈ TW := twm (by decide +kernel) (by decide +kernel)
theorem lkGR_28 : Cond.fieldLink nGR 28 "GroupHalls$Group" "keys" "LGroupHalls$Row;" ∈ TW := twm (by decide +kernel) (by decide +kernel)
theorem lkGR_40 : Cond.fieldLink nGR 40 "GroupHalls$Group" "matrices" "I" ∈ TW := twm (by decide +kernel) (by decide +kernel)
theorem lkGR_44 : Cond.fieldLink nGR 44 "GroupHalls$Group" "centrings" "I" ∈ TW := twm (by decide +kernel) (by decide +kernel)
theorem lkGR_51 : Cond.fieldLink nGR 51 "GroupHalls$Group" "letter" "I" ∈ TW := twm (by decide +kernel) (by decide +kernel)
theorem lkGR_58 : Cond.fieldLink nGR 58 "GroupHalls$Group" "pointClass" "I" ∈ TW := twm (by decide +kernel) (by decide +kernel)
theorem lkGR_9 : Cond.fieldLink nGR 9 "GroupHalls$Group" "alikeSets" "LGroupHalls$AlikeSets;" ∈ TW := twm (by decide +kernel) (by decide +kernel)
theorem lkGR_15 : Cond.fieldLink nGR 15 "GroupHalls$Group" "halves" "LGroupHalls$Halves;" ∈ TW := twm (by decide +kernel) (by decide +kernel)
theorem lkLW_23 : Cond.methodLink nLW 23 yGH_about ∈ TW := twm (by decide +kernel) (by decide +kernel)
theorem imGH_about : Cond.instanceMethod yGH_about ∈ TW := twm (by decide +kernel) (by decide +kernel)
theorem seGH_about : Cond.selects nGH yGH_about yGH_about ∈ TW := twm (by decide +kernel) (by decide +kernel)
theorem lkGH_87 : Cond.methodLink nGH 87 yGR_matrices ∈ TW := twm (by decide +kernel) (by decide +kernel)
theorem imGR_matrices : Cond.instanceMethod yGR_matrices ∈ TW := twm (by decide +kernel) (by decide +kernel)
theorem seGR_matrices : Cond.selects nGR yGR_matrices yGR_matrices ∈ TW := twm (by decide +kernel) (by decide +kernel)
theorem lkGH_90 : Cond.methodLink nGH 90 yGR_centrings ∈ TW := twm (by decide +kernel) (by decide +kernel)
theorem imGR_centrings : Cond.instanceMethod yGR_centrings ∈ TW := twm (by decide +kernel) (by decide +kernel)
theorem seGR_centrings : Cond.selects nGR yGR_centrings yGR_centrings ∈ TW := twm (by decide +kernel) (by decide +kernel)
theorem lkGH_93 : Cond.methodLink nGH 93 yGR_letter ∈ TW := twm (by decide +kernel) (by decide +kernel)
theorem imGR_letter : Cond.instanceMethod yGR_letter ∈ TW := twm (by decide +kernel) (by decide +kernel)
theorem seGR_letter : Cond.selects nGR yGR_letter yGR_letter ∈ TW := twm (by decide +kernel) (by decide +kernel)
theorem lkGH_96 : Cond.methodLink nGH 96 yGR_pointClass ∈ TW := twm (by decide +kernel) (by decide +kernel)
theorem imGR_pointClass : Cond.instanceMethod yGR_pointClass ∈ TW := twm (by decide +kernel) (by decide +kernel)
theorem seGR_pointClass : Cond.selects nGR yGR_pointClass yGR_pointClass ∈ TW := twm (by decide +kernel) (by decide +kernel)
theorem lkGH_99 : Cond.methodLink nGH 99 yGR_alikeSets ∈ TW := twm (by decide +kernel) (by decide +kernel)
theorem imGR_alikeSets : Cond.instanceMethod yGR_alikeSets ∈ TW := twm (by decide +kernel) (by decide +kernel)
theorem seGR_alikeSets : Cond.selects nGR yGR_alikeSets yGR_alikeSets ∈ TW := twm (by decide +kernel) (by decide +kernel)
theorem lkGR_61 : Cond.classLink nGR 61 nAS ∈ TW := twm (by decide +kernel) (by decide +kernel)
theorem insAS : Cond.instantiable nAS 3 ∈ TW := twm (by decide +kernel) (by decide +kernel)
theorem lkGR_63 : Cond.methodLink nGR 63 yAS_init ∈ TW := twm (by decide +kernel) (by decide +kernel)
theorem imAS_init : Cond.instanceMethod yAS_init ∈ TW := twm (by decide +kernel) (by decide +kernel)
theorem lkAS_3 : Cond.methodLink nAS 3 objectInit ∈ TW := twm (by decide +kernel) (by decide +kernel)
theorem lkAS_9 : Cond.methodLink nAS 9 yRO_size ∈ TW := twm (by decide +kernel) (by decide +kernel)
theorem lkAS_28 : Cond.methodLink nAS 28 yCL_start ∈ TW := twm (by decide +kernel) (by decide +kernel)
theorem lkAS_33 : Cond.methodLink nAS 33 yRO_at ∈ TW := twm (by decide +kernel) (by decide +kernel)
theorem lkAS_37 : Cond.methodLink nAS 37 yCL_take ∈ TW := twm (by decide +kernel) (by decide +kernel)
theorem lkAS_41 : Cond.methodLink nAS 41 yCL_generatorCount ∈ TW := twm (by decide +kernel) (by decide +kernel)
theorem imCL_generatorCount : Cond.instanceMethod yCL_generatorCount ∈ TW := twm (by decide +kernel) (by decide +kernel)
theorem seCL_generatorCount : Cond.selects nCL yCL_generatorCount yCL_generatorCount ∈ TW := twm (by decide +kernel) (by decide +kernel)
theorem lkAS_44 : Cond.methodLink nAS 44 yCL_generator ∈ TW := twm (by decide +kernel) (by decide +kernel)
theorem lkAS_47 : Cond.methodLink nAS 47 yAS_joinBy ∈ TW := twm (by decide +kernel) (by decide +kernel)
theorem seAS_joinBy : Cond.selects nAS yAS_joinBy yAS_joinBy ∈ TW := twm (by decide +kernel) (by decide +kernel)
theorem imAS_joinBy : Cond.instanceMethod yAS_joinBy ∈ TW := twm (by decide +kernel) (by decide +kernel)
theorem lkAS_51 : Cond.methodLink nAS 51 yBE_times ∈ TW := twm (by decide +kernel) (by decide +kernel)
theorem lkAS_57 : Cond.methodLink nAS 57 yRO_indexOf ∈ TW := twm (by decide +kernel) (by decide +kernel)
theorem lkAS_60 : Cond.methodLink nAS 60 yAS_join ∈ TW := twm (by decide +kernel) (by decide +kernel)
theorem seAS_join : Cond.selects nAS yAS_join yAS_join ∈ TW := twm (by decide +kernel) (by decide +kernel)
theorem imAS_join : Cond.instanceMethod yAS_join ∈ TW := twm (by decide +kernel) (by decide +kernel)
theorem lkAS_15 : Cond.fieldLink nAS 15 "GroupHalls$AlikeSets" "setOf" "[I" ∈ TW := twm (by decide +kernel) (by decide +kernel)
theorem lkAS_21 : Cond.fieldLink nAS 21 "GroupHalls$AlikeSets" "sizes" "[I" ∈ TW := twm (by decide +kernel) (by decide +kernel)
theorem lkAS_24 : Cond.fieldLink nAS 24 "GroupHalls$AlikeSets" "count" "I" ∈ TW := twm (by decide +kernel) (by decide +kernel)
theorem lkGH_103 : Cond.methodLink nGH 103 yAS_count ∈ TW := twm (by decide +kernel) (by decide +kernel)
theorem imAS_count : Cond.instanceMethod yAS_count ∈ TW := twm (by decide +kernel) (by decide +kernel)
theorem seAS_count : Cond.selects nAS yAS_count yAS_count ∈ TW := twm (by decide +kernel) (by decide +kernel)
theorem lkGH_108 : Cond.methodLink nGH 108 yGR_halves ∈ TW := twm (by decide +kernel) (by decide +kernel)
theorem imGR_halves : Cond.instanceMethod yGR_halves ∈ TW := twm (by decide +kernel) (by decide +kernel)
theorem seGR_halves : Cond.selects nGR yGR_halves yGR_halves ∈ TW := twm (by decide +kernel) (by decide +kernel)
theorem lkGR_66 : Cond.classLink nGR 66 nHA ∈ TW := twm (by decide +kernel) (by decide +kernel)
theorem insHA : Cond.instantiable nHA 2 ∈ TW := twm (by decide +kernel) (by decide +kernel)
theorem lkGR_68 : Cond.methodLink nGR 68 yHA_init ∈ TW := twm (by decide +kernel) (by decide +kernel)
theorem imHA_init : Cond.instanceMethod yHA_init ∈ TW := twm (by decide +kernel) (by decide +kernel)
theorem lkHA_3 : Cond.methodLink nHA 3 objectInit ∈ TW := twm (by decide +kernel) (by decide +kernel)
theorem lkHA_15 : Cond.methodLink nHA 15 yRO_size ∈ TW := twm (by decide +kernel) (by decide +kernel)
theorem lkHA_25 : Cond.methodLink nHA 25 yCL_start ∈ TW := twm (by decide +kernel) (by decide +kernel)
theorem lkHA_30 : Cond.methodLink nHA 30 yRO_at ∈ TW := twm (by decide +kernel) (by decide +kernel)
theorem lkHA_34 : Cond.methodLink nHA 34 yBE_times ∈ TW := twm (by decide +kernel) (by decide +kernel)
theorem lkHA_40 : Cond.methodLink nHA 40 yCL_take ∈ TW := twm (by decide +kernel) (by decide +kernel)
theorem lkHA_44 : Cond.methodLink nHA 44 yCL_found ∈ TW := twm (by decide +kernel) (by decide +kernel)
theorem lkHA_48 : Cond.methodLink nHA 48 yRO_has ∈ TW := twm (by decide +kernel) (by decide +kernel)
theorem lkHA_51 : Cond.methodLink nHA 51 yHA_addBit ∈ TW := twm (by decide +kernel) (by decide +kernel)
theorem seHA_addBit : Cond.selects nHA yHA_addBit yHA_addBit ∈ TW := twm (by decide +kernel) (by decide +kernel)
theorem imHA_addBit : Cond.instanceMethod yHA_addBit ∈ TW := twm (by decide +kernel) (by decide +kernel)
theorem lkHA_69 : Cond.methodLink nHA 69 yRO_indexOf ∈ TW := twm (by decide +kernel) (by decide +kernel)
theorem lkHA_21 : Cond.fieldLink nHA 21 "GroupHalls$Halves" "codes" "[I" ∈ TW := twm (by decide +kernel) (by decide +kernel)
theorem lkHA_9 : Cond.fieldLink nHA 9 "GroupHalls$Halves" "bits" "I" ∈ TW := twm (by decide +kernel) (by decide +kernel)
theorem lkGH_112 : Cond.methodLink nGH 112 yHA_count ∈ TW := twm (by decide +kernel) (by decide +kernel)
theorem imHA_count : Cond.instanceMethod yHA_count ∈ TW := twm (by decide +kernel) (by decide +kernel)
theorem seHA_count : Cond.selects nHA yHA_count yHA_count ∈ TW := twm (by decide +kernel) (by decide +kernel)
theorem lkLW_27 : Cond.methodLink nLW 27 yGH_of ∈ TW := twm (by decide +kernel) (by decide +kernel)
theorem imGH_of : Cond.instanceMethod yGH_of ∈ TW := twm (by decide +kernel) (by decide +kernel)
theorem seGH_of : Cond.selects nGH yGH_of yGH_of ∈ TW := twm (by decide +kernel) (by decide +kernel)
theorem lkGH_121 : Cond.methodLink nGH 121 yBE_turns ∈ TW := twm (by decide +kernel) (by decide +kernel)
theorem imBE_turns : Cond.instanceMethod yBE_turns ∈ TW := twm (by decide +kernel) (by decide +kernel)
theorem seBE_turns : Cond.selects nBE yBE_turns yBE_turns ∈ TW := twm (by decide +kernel) (by decide +kernel)
theorem lkBE_33 : Cond.constant nBE 33 227874816 ∈ TW := twm (by decide +kernel) (by decide +kernel)
theorem lkBE_34 : Cond.methodLink nBE 34 yBE_times ∈ TW := twm (by decide +kernel) (by decide +kernel)
theorem lkGH_124 : Cond.methodLink nGH 124 yAS_sizeOf ∈ TW := twm (by decide +kernel) (by decide +kernel)
theorem imAS_sizeOf : Cond.instanceMethod yAS_sizeOf ∈ TW := twm (by decide +kernel) (by decide +kernel)
theorem seAS_sizeOf : Cond.selects nAS yAS_sizeOf yAS_sizeOf ∈ TW := twm (by decide +kernel) (by decide +kernel)
theorem lkLW_32 : Cond.methodLink nLW 32 yGH_product ∈ TW := twm (by decide +kernel) (by decide +kernel)
theorem imGH_product : Cond.instanceMethod yGH_product ∈ TW := twm (by decide +kernel) (by decide +kernel)
theorem seGH_product : Cond.selects nGH yGH_product yGH_product ∈ TW := twm (by decide +kernel) (by decide +kernel)
theorem lkGH_127 : Cond.methodLink nGH 127 yBE_times ∈ TW := twm (by decide +kernel) (by decide +kernel)
theorem lkGH_131 : Cond.methodLink nGH 131 yRO_indexOf ∈ TW := twm (by decide +kernel) (by decide +kernel)
theorem lkLW_36 : Cond.methodLink nLW 36 yGH_find ∈ TW := twm (by decide +kernel) (by decide +kernel)
theorem imGH_find : Cond.instanceMethod yGH_find ∈ TW := twm (by decide +kernel) (by decide +kernel)
theorem seGH_find : Cond.selects nGH yGH_find yGH_find ∈ TW := twm (by decide +kernel) (by decide +kernel)
theorem lkLW_40 : Cond.methodLink nLW 40 yGH_half ∈ TW := twm (by decide +kernel) (by decide +kernel)
theorem imGH_half : Cond.instanceMethod yGH_half ∈ TW := twm (by decide +kernel) (by decide +kernel)
theorem seGH_half : Cond.selects nGH yGH_half yGH_half ∈ TW := twm (by decide +kernel) (by decide +kernel)
theorem lkGH_134 : Cond.methodLink nGH 134 yHA_gather ∈ TW := twm (by decide +kernel) (by decide +kernel)
theorem imHA_gather : Cond.instanceMethod yHA_gather ∈ TW := twm (by decide +kernel) (by decide +kernel)
theorem seHA_gather : Cond.selects nHA yHA_gather yHA_gather ∈ TW := twm (by decide +kernel) (by decide +kernel)
theorem lkHA_55 : Cond.methodLink nHA 55 yHA_refusedBits ∈ TW := twm (by decide +kernel) (by decide +kernel)
theorem seHA_refusedBits : Cond.selects nHA yHA_refusedBits yHA_refusedBits ∈ TW := twm (by decide +kernel) (by decide +kernel)
theorem imHA_refusedBits : Cond.instanceMethod yHA_refusedBits ∈ TW := twm (by decide +kernel) (by decide +kernel)
theorem lkHA_58 : Cond.methodLink nHA 58 yRO_clear ∈ TW := twm (by decide +kernel) (by decide +kernel)
theorem lkHA_61 : Cond.methodLink nHA 61 yJI_bitCount ∈ TW := twm (by decide +kernel) (by decide +kernel)
theorem smJI_bitCount : Cond.static yJI_bitCount ∈ TW := twm (by decide +kernel) (by decide +kernel)
theorem lkJI_265 : Cond.constant nJI 265 1431655765 ∈ TW := twm (by decide +kernel) (by decide +kernel)
theorem lkJI_266 : Cond.constant nJI 266 858993459 ∈ TW := twm (by decide +kernel) (by decide +kernel)
theorem lkJI_267 : Cond.constant nJI 267 252645135 ∈ TW := twm (by decide +kernel) (by decide +kernel)
theorem lkHA_66 : Cond.methodLink nHA 66 yRO_add ∈ TW := twm (by decide +kernel) (by decide +kernel)
theorem lkLW_44 : Cond.methodLink nLW 44 yGH_both ∈ TW := twm (by decide +kernel) (by decide +kernel)
theorem imGH_both : Cond.instanceMethod yGH_both ∈ TW := twm (by decide +kernel) (by decide +kernel)
theorem seGH_both : Cond.selects nGH yGH_both yGH_both ∈ TW := twm (by decide +kernel) (by decide +kernel)
theorem lkGH_138 : Cond.methodLink nGH 138 yRO_clear ∈ TW := twm (by decide +kernel) (by decide +kernel)
theorem lkGH_141 : Cond.methodLink nGH 141 yRO_has ∈ TW := twm (by decide +kernel) (by decide +kernel)
theorem lkGH_144 : Cond.methodLink nGH 144 yRO_add ∈ TW := twm (by decide +kernel) (by decide +kernel)
theorem lkLW_48 : Cond.methodLink nLW 48 yGH_centre ∈ TW := twm (by decide +kernel) (by decide +kernel)
theorem imGH_centre : Cond.instanceMethod yGH_centre ∈ TW := twm (by decide +kernel) (by decide +kernel)
theorem seGH_centre : Cond.selects nGH yGH_centre yGH_centre ∈ TW := twm (by decide +kernel) (by decide +kernel)
theorem lkLW_53 : Cond.methodLink nLW 53 yGH_within ∈ TW := twm (by decide +kernel) (by decide +kernel)
theorem imGH_within : Cond.instanceMethod yGH_within ∈ TW := twm (by decide +kernel) (by decide +kernel)
theorem seGH_within : Cond.selects nGH yGH_within yGH_within ∈ TW := twm (by decide +kernel) (by decide +kernel)
theorem lkLW_58 : Cond.methodLink nLW 58 yGH_orbit ∈ TW := twm (by decide +kernel) (by decide +kernel)
theorem imGH_orbit : Cond.instanceMethod yGH_orbit ∈ TW := twm (by decide +kernel) (by decide +kernel)
theorem seGH_orbit : Cond.selects nGH yGH_orbit yGH_orbit ∈ TW := twm (by decide +kernel) (by decide +kernel)
theorem lkGH_147 : Cond.methodLink nGH 147 yGH_gatherOrbit ∈ TW := twm (by decide +kernel) (by decide +kernel)
theorem seGH_gatherOrbit : Cond.selects nGH yGH_gatherOrbit yGH_gatherOrbit ∈ TW := twm (by decide +kernel) (by decide +kernel)
theorem imGH_gatherOrbit : Cond.instanceMethod yGH_gatherOrbit ∈ TW := twm (by decide +kernel) (by decide +kernel)
theorem lkGH_165 : Cond.methodLink nGH 165 yBE_moved ∈ TW := twm (by decide +kernel) (by decide +kernel)
theorem imBE_moved : Cond.instanceMethod yBE_moved ∈ TW := twm (by decide +kernel) (by decide +kernel)
theorem seBE_moved : Cond.selects nBE yBE_moved yBE_moved ∈ TW := twm (by decide +kernel) (by decide +kernel)
theorem lkGH_151 : Cond.methodLink nGH 151 yGH_gatherKeepers ∈ TW := twm (by decide +kernel) (by decide +kernel)
theorem seGH_gatherKeepers : Cond.selects nGH yGH_gatherKeepers yGH_gatherKeepers ∈ TW := twm (by decide +kernel) (by decide +kernel)
theorem imGH_gatherKeepers : Cond.instanceMethod yGH_gatherKeepers ∈ TW := twm (by decide +kernel) (by decide +kernel)
theorem lkGH_154 : Cond.methodLink nGH 154 yGH_classOf ∈ TW := twm (by decide +kernel) (by decide +kernel)
theorem lkLW_62 : Cond.methodLink nLW 62 yGH_keepers ∈ TW := twm (by decide +kernel) (by decide +kernel)
theorem imGH_keepers : Cond.instanceMethod yGH_keepers ∈ TW := twm (by decide +kernel) (by decide +kernel)
theorem seGH_keepers : Cond.selects nGH yGH_keepers yGH_keepers ∈ TW := twm (by decide +kernel) (by decide +kernel)
theorem lkLW_10 : Cond.classLink nLW 10 nMO ∈ TW := twm (by decide +kernel) (by decide +kernel)
theorem insMO : Cond.instantiable nMO 24 ∈ TW := twm (by decide +kernel) (by decide +kernel)
theorem lkLW_12 : Cond.methodLink nLW 12 yMO_init ∈ TW := twm (by decide +kernel) (by decide +kernel)
theorem imMO_init : Cond.instanceMethod yMO_init ∈ TW := twm (by decide +kernel) (by decide +kernel)
theorem lkMO_1 : Cond.methodLink nMO 1 objectInit ∈ TW := twm (by decide +kernel) (by decide +kernel)
theorem lkMO_51 : Cond.constant nMO 51 36864 ∈ TW := twm (by decide +kernel) (by decide +kernel)
theorem lkMO_7 : Cond.fieldLink nMO 7 "GroupHallsModel" "ma" "[I" ∈ TW := twm (by decide +kernel) (by decide +kernel)
theorem lkMO_13 : Cond.fieldLink nMO 13 "GroupHallsModel" "sa" "[I" ∈ TW := twm (by decide +kernel) (by decide +kernel)
theorem lkMO_16 : Cond.fieldLink nMO 16 "GroupHallsModel" "mb" "[I" ∈ TW := twm (by decide +kernel) (by decide +kernel)
theorem lkMO_19 : Cond.fieldLink nMO 19 "GroupHallsModel" "sb" "[I" ∈ TW := twm (by decide +kernel) (by decide +kernel)
theorem lkMO_22 : Cond.fieldLink nMO 22 "GroupHallsModel" "chosen" "[I" ∈ TW := twm (by decide +kernel) (by decide +kernel)
theorem lkMO_92 : Cond.fieldLink nMO 92 "GroupHallsModel" "choices" "I" ∈ TW := twm (by decide +kernel) (by decide +kernel)
theorem lkMO_25 : Cond.fieldLink nMO 25 "GroupHallsModel" "member" "[I" ∈ TW := twm (by decide +kernel) (by decide +kernel)
theorem lkMO_28 : Cond.fieldLink nMO 28 "GroupHallsModel" "size" "[I" ∈ TW := twm (by decide +kernel) (by decide +kernel)
theorem lkMO_88 : Cond.fieldLink nMO 88 "GroupHallsModel" "groups" "I" ∈ TW := twm (by decide +kernel) (by decide +kernel)
theorem lkMO_31 : Cond.fieldLink nMO 31 "GroupHallsModel" "list" "[I" ∈ TW := twm (by decide +kernel) (by decide +kernel)
theorem lkMO_95 : Cond.fieldLink nMO 95 "GroupHallsModel" "listed" "I" ∈ TW := twm (by decide +kernel) (by decide +kernel)
theorem lkMO_34 : Cond.fieldLink nMO 34 "GroupHallsModel" "alikes" "[I" ∈ TW := twm (by decide +kernel) (by decide +kernel)
theorem lkMO_37 : Cond.fieldLink nMO 37 "GroupHallsModel" "alikeMany" "[I" ∈ TW := twm (by decide +kernel) (by decide +kernel)
theorem lkMO_40 : Cond.fieldLink nMO 40 "GroupHallsModel" "halves" "[I" ∈ TW := twm (by decide +kernel) (by decide +kernel)
theorem lkMO_43 : Cond.fieldLink nMO 43 "GroupHallsModel" "known" "[Z" ∈ TW := twm (by decide +kernel) (by decide +kernel)
theorem lkMO_47 : Cond.fieldLink nMO 47 "GroupHallsModel" "halfBits" "[J" ∈ TW := twm (by decide +kernel) (by decide +kernel)
theorem lkMO_52 : Cond.fieldLink nMO 52 "GroupHallsModel" "table" "[I" ∈ TW := twm (by decide +kernel) (by decide +kernel)
theorem lkMO_55 : Cond.fieldLink nMO 55 "GroupHallsModel" "mark" "[I" ∈ TW := twm (by decide +kernel) (by decide +kernel)
theorem lkMO_58 : Cond.fieldLink nMO 58 "GroupHallsModel" "generator" "[I" ∈ TW := twm (by decide +kernel) (by decide +kernel)
theorem lkMO_61 : Cond.fieldLink nMO 61 "GroupHallsModel" "orbit" "[I" ∈ TW := twm (by decide +kernel) (by decide +kernel)
theorem lkMO_64 : Cond.fieldLink nMO 64 "GroupHallsModel" "sorts" "[I" ∈ TW := twm (by decide +kernel) (by decide +kernel)
theorem lkMO_67 : Cond.fieldLink nMO 67 "GroupHallsModel" "keeper" "[I" ∈ TW := twm (by decide +kernel) (by decide +kernel)
theorem lkMO_70 : Cond.fieldLink nMO 70 "GroupHallsModel" "mc" "[I" ∈ TW := twm (by decide +kernel) (by decide +kernel)
theorem lkMO_73 : Cond.fieldLink nMO 73 "GroupHallsModel" "sc" "[I" ∈ TW := twm (by decide +kernel) (by decide +kernel)
theorem ac_boolean : Cond.arrayClass .boolean ∈ TW := twm (by decide +kernel) (by decide +kernel)
theorem ac_long : Cond.arrayClass .long ∈ TW := twm (by decide +kernel) (by decide +kernel)
theorem lkLW_17 : Cond.methodLink nLW 17 yMO_choose ∈ TW := twm (by decide +kernel) (by decide +kernel)
theorem imMO_choose : Cond.instanceMethod yMO_choose ∈ TW := twm (by decide +kernel) (by decide +kernel)
theorem seMO_choose : Cond.selects nMO yMO_choose yMO_choose ∈ TW := twm (by decide +kernel) (by decide +kernel)
theorem lkMO_76 : Cond.methodLink nMO 76 yMO_open ∈ TW := twm (by decide +kernel) (by decide +kernel)
theorem smMO_open : Cond.static yMO_open ∈ TW := twm (by decide +kernel) (by decide +kernel)
theorem lkMO_84 : Cond.methodLink nMO 84 yMO_determinant ∈ TW := twm (by decide +kernel) (by decide +kernel)
theorem smMO_determinant : Cond.static yMO_determinant ∈ TW := twm (by decide +kernel) (by decide +kernel)
theorem lkLW_22 : Cond.methodLink nLW 22 yMO_group ∈ TW := twm (by decide +kernel) (by decide +kernel)
theorem imMO_group : Cond.instanceMethod yMO_group ∈ TW := twm (by decide +kernel) (by decide +kernel)
theorem seMO_group : Cond.selects nMO yMO_group yMO_group ∈ TW := twm (by decide +kernel) (by decide +kernel)
theorem lkMO_98 : Cond.methodLink nMO 98 yMO_identity ∈ TW := twm (by decide +kernel) (by decide +kernel)
theorem smMO_identity : Cond.static yMO_identity ∈ TW := twm (by decide +kernel) (by decide +kernel)
theorem lkMO_102 : Cond.methodLink nMO 102 yMO_times ∈ TW := twm (by decide +kernel) (by decide +kernel)
theorem seMO_times : Cond.selects nMO yMO_times yMO_times ∈ TW := twm (by decide +kernel) (by decide +kernel)
theorem imMO_times : Cond.instanceMethod yMO_times ∈ TW := twm (by decide +kernel) (by decide +kernel)
theorem lkMO_80 : Cond.methodLink nMO 80 yMO_closed ∈ TW := twm (by decide +kernel) (by decide +kernel)
theorem smMO_closed : Cond.static yMO_closed ∈ TW := twm (by decide +kernel) (by decide +kernel)
theorem lkMO_106 : Cond.methodLink nMO 106 yMO_isListed ∈ TW := twm (by decide +kernel) (by decide +kernel)
theorem seMO_isListed : Cond.selects nMO yMO_isListed yMO_isListed ∈ TW := twm (by decide +kernel) (by decide +kernel)
theorem imMO_isListed : Cond.instanceMethod yMO_isListed ∈ TW := twm (by decide +kernel) (by decide +kernel)
theorem lkMO_110 : Cond.methodLink nMO 110 yMO_numbered ∈ TW := twm (by decide +kernel) (by decide +kernel)
theorem seMO_numbered : Cond.selects nMO yMO_numbered yMO_numbered ∈ TW := twm (by decide +kernel) (by decide +kernel)
theorem imMO_numbered : Cond.instanceMethod yMO_numbered ∈ TW := twm (by decide +kernel) (by decide +kernel)
theorem lkLW_26 : Cond.methodLink nLW 26 yMO_about ∈ TW := twm (by decide +kernel) (by decide +kernel)
theorem imMO_about : Cond.instanceMethod yMO_about ∈ TW := twm (by decide +kernel) (by decide +kernel)
theorem seMO_about : Cond.selects nMO yMO_about yMO_about ∈ TW := twm (by decide +kernel) (by decide +kernel)
theorem lkMO_151 : Cond.methodLink nMO 151 yMO_isGroup ∈ TW := twm (by decide +kernel) (by decide +kernel)
theorem seMO_isGroup : Cond.selects nMO yMO_isGroup yMO_isGroup ∈ TW := twm (by decide +kernel) (by decide +kernel)
theorem imMO_isGroup : Cond.instanceMethod yMO_isGroup ∈ TW := twm (by decide +kernel) (by decide +kernel)
theorem lkMO_154 : Cond.methodLink nMO 154 yMO_matrices ∈ TW := twm (by decide +kernel) (by decide +kernel)
theorem seMO_matrices : Cond.selects nMO yMO_matrices yMO_matrices ∈ TW := twm (by decide +kernel) (by decide +kernel)
theorem imMO_matrices : Cond.instanceMethod yMO_matrices ∈ TW := twm (by decide +kernel) (by decide +kernel)
theorem lkMO_158 : Cond.methodLink nMO 158 yMO_centrings ∈ TW := twm (by decide +kernel) (by decide +kernel)
theorem seMO_centrings : Cond.selects nMO yMO_centrings yMO_centrings ∈ TW := twm (by decide +kernel) (by decide +kernel)
theorem imMO_centrings : Cond.instanceMethod yMO_centrings ∈ TW := twm (by decide +kernel) (by decide +kernel)
theorem lkMO_161 : Cond.methodLink nMO 161 yMO_letterOf ∈ TW := twm (by decide +kernel) (by decide +kernel)
theorem seMO_letterOf : Cond.selects nMO yMO_letterOf yMO_letterOf ∈ TW := twm (by decide +kernel) (by decide +kernel)
theorem imMO_letterOf : Cond.instanceMethod yMO_letterOf ∈ TW := twm (by decide +kernel) (by decide +kernel)
theorem lkMO_122 : Cond.methodLink nMO 122 yMO_hasShift ∈ TW := twm (by decide +kernel) (by decide +kernel)
theorem seMO_hasShift : Cond.selects nMO yMO_hasShift yMO_hasShift ∈ TW := twm (by decide +kernel) (by decide +kernel)
theorem imMO_hasShift : Cond.instanceMethod yMO_hasShift ∈ TW := twm (by decide +kernel) (by decide +kernel)
theorem lkMO_119 : Cond.methodLink nMO 119 yMO_place ∈ TW := twm (by decide +kernel) (by decide +kernel)
theorem seMO_place : Cond.selects nMO yMO_place yMO_place ∈ TW := twm (by decide +kernel) (by decide +kernel)
theorem imMO_place : Cond.instanceMethod yMO_place ∈ TW := twm (by decide +kernel) (by decide +kernel)
theorem lkMO_164 : Cond.methodLink nMO 164 yMO_classOf ∈ TW := twm (by decide +kernel) (by decide +kernel)
theorem seMO_classOf : Cond.selects nMO yMO_classOf yMO_classOf ∈ TW := twm (by decide +kernel) (by decide +kernel)
theorem imMO_classOf : Cond.instanceMethod yMO_classOf ∈ TW := twm (by decide +kernel) (by decide +kernel)
theorem lkMO_113 : Cond.methodLink nMO 113 yMO_sortOf ∈ TW := twm (by decide +kernel) (by decide +kernel)
theorem smMO_sortOf : Cond.static yMO_sortOf ∈ TW := twm (by decide +kernel) (by decide +kernel)
theorem lkMO_116 : Cond.methodLink nMO 116 yMO_classBy ∈ TW := twm (by decide +kernel) (by decide +kernel)
theorem smMO_classBy : Cond.static yMO_classBy ∈ TW := twm (by decide +kernel) (by decide +kernel)
theorem lkMO_168 : Cond.methodLink nMO 168 yMO_know ∈ TW := twm (by decide +kernel) (by decide +kernel)
theorem seMO_know : Cond.selects nMO yMO_know yMO_know ∈ TW := twm (by decide +kernel) (by decide +kernel)
theorem imMO_know : Cond.instanceMethod yMO_know ∈ TW := twm (by decide +kernel) (by decide +kernel)
theorem lkMO_126 : Cond.methodLink nMO 126 yMO_countAlike ∈ TW := twm (by decide +kernel) (by decide +kernel)
theorem seMO_countAlike : Cond.selects nMO yMO_countAlike yMO_countAlike ∈ TW := twm (by decide +kernel) (by decide +kernel)
theorem imMO_countAlike : Cond.instanceMethod yMO_countAlike ∈ TW := twm (by decide +kernel) (by decide +kernel)
theorem lkMO_129 : Cond.methodLink nMO 129 yMO_gatherHalves ∈ TW := twm (by decide +kernel) (by decide +kernel)
theorem seMO_gatherHalves : Cond.selects nMO yMO_gatherHalves yMO_gatherHalves ∈ TW := twm (by decide +kernel) (by decide +kernel)
theorem imMO_gatherHalves : Cond.instanceMethod yMO_gatherHalves ∈ TW := twm (by decide +kernel) (by decide +kernel)
theorem lkMO_133 : Cond.methodLink nMO 133 yMO_made ∈ TW := twm (by decide +kernel) (by decide +kernel)
theorem seMO_made : Cond.selects nMO yMO_made yMO_made ∈ TW := twm (by decide +kernel) (by decide +kernel)
theorem imMO_made : Cond.instanceMethod yMO_made ∈ TW := twm (by decide +kernel) (by decide +kernel)
theorem lkMO_136 : Cond.methodLink nMO 136 yMO_isHalf ∈ TW := twm (by decide +kernel) (by decide +kernel)
theorem seMO_isHalf : Cond.selects nMO yMO_isHalf yMO_isHalf ∈ TW := twm (by decide +kernel) (by decide +kernel)
theorem imMO_isHalf : Cond.instanceMethod yMO_isHalf ∈ TW := twm (by decide +kernel) (by decide +kernel)
theorem lkMO_140 : Cond.methodLink nMO 140 yMO_keepHalf ∈ TW := twm (by decide +kernel) (by decide +kernel)
theorem seMO_keepHalf : Cond.selects nMO yMO_keepHalf yMO_keepHalf ∈ TW := twm (by decide +kernel) (by decide +kernel)
theorem imMO_keepHalf : Cond.instanceMethod yMO_keepHalf ∈ TW := twm (by decide +kernel) (by decide +kernel)
theorem lkMO_143 : Cond.methodLink nMO 143 yMO_comesAhead ∈ TW := twm (by decide +kernel) (by decide +kernel)
theorem seMO_comesAhead : Cond.selects nMO yMO_comesAhead yMO_comesAhead ∈ TW := twm (by decide +kernel) (by decide +kernel)
theorem imMO_comesAhead : Cond.instanceMethod yMO_comesAhead ∈ TW := twm (by decide +kernel) (by decide +kernel)
theorem lkMO_147 : Cond.methodLink nMO 147 yMO_isGreater ∈ TW := twm (by decide +kernel) (by decide +kernel)
theorem smMO_isGreater : Cond.static yMO_isGreater ∈ TW := twm (by decide +kernel) (by decide +kernel)
theorem lkLW_31 : Cond.methodLink nLW 31 yMO_of ∈ TW := twm (by decide +kernel) (by decide +kernel)
theorem imMO_of : Cond.instanceMethod yMO_of ∈ TW := twm (by decide +kernel) (by decide +kernel)
theorem seMO_of : Cond.selects nMO yMO_of yMO_of ∈ TW := twm (by decide +kernel) (by decide +kernel)
theorem lkMO_172 : Cond.methodLink nMO 172 yMO_isMember ∈ TW := twm (by decide +kernel) (by decide +kernel)
theorem seMO_isMember : Cond.selects nMO yMO_isMember yMO_isMember ∈ TW := twm (by decide +kernel) (by decide +kernel)
theorem imMO_isMember : Cond.instanceMethod yMO_isMember ∈ TW := twm (by decide +kernel) (by decide +kernel)
theorem lkLW_35 : Cond.methodLink nLW 35 yMO_product ∈ TW := twm (by decide +kernel) (by decide +kernel)
theorem imMO_product : Cond.instanceMethod yMO_product ∈ TW := twm (by decide +kernel) (by decide +kernel)
theorem seMO_product : Cond.selects nMO yMO_product yMO_product ∈ TW := twm (by decide +kernel) (by decide +kernel)
theorem lkLW_39 : Cond.methodLink nLW 39 yMO_find ∈ TW := twm (by decide +kernel) (by decide +kernel)
theorem imMO_find : Cond.instanceMethod yMO_find ∈ TW := twm (by decide +kernel) (by decide +kernel)
theorem seMO_find : Cond.selects nMO yMO_find yMO_find ∈ TW := twm (by decide +kernel) (by decide +kernel)
theorem lkLW_43 : Cond.methodLink nLW 43 yMO_half ∈ TW := twm (by decide +kernel) (by decide +kernel)
theorem imMO_half : Cond.instanceMethod yMO_half ∈ TW := twm (by decide +kernel) (by decide +kernel)
theorem seMO_half : Cond.selects nMO yMO_half yMO_half ∈ TW := twm (by decide +kernel) (by decide +kernel)
theorem lkLW_47 : Cond.methodLink nLW 47 yMO_both ∈ TW := twm (by decide +kernel) (by decide +kernel)
theorem imMO_both : Cond.instanceMethod yMO_both ∈ TW := twm (by decide +kernel) (by decide +kernel)
theorem seMO_both : Cond.selects nMO yMO_both yMO_both ∈ TW := twm (by decide +kernel) (by decide +kernel)
theorem lkLW_52 : Cond.methodLink nLW 52 yMO_centre ∈ TW := twm (by decide +kernel) (by decide +kernel)
theorem imMO_centre : Cond.instanceMethod yMO_centre ∈ TW := twm (by decide +kernel) (by decide +kernel)
theorem seMO_centre : Cond.selects nMO yMO_centre yMO_centre ∈ TW := twm (by decide +kernel) (by decide +kernel)
theorem lkLW_57 : Cond.methodLink nLW 57 yMO_within ∈ TW := twm (by decide +kernel) (by decide +kernel)
theorem imMO_within : Cond.instanceMethod yMO_within ∈ TW := twm (by decide +kernel) (by decide +kernel)
theorem seMO_within : Cond.selects nMO yMO_within yMO_within ∈ TW := twm (by decide +kernel) (by decide +kernel)
theorem lkLW_61 : Cond.methodLink nLW 61 yMO_orbit ∈ TW := twm (by decide +kernel) (by decide +kernel)
theorem imMO_orbit : Cond.instanceMethod yMO_orbit ∈ TW := twm (by decide +kernel) (by decide +kernel)
theorem seMO_orbit : Cond.selects nMO yMO_orbit yMO_orbit ∈ TW := twm (by decide +kernel) (by decide +kernel)
theorem lkMO_178 : Cond.methodLink nMO 178 yMO_keepersOf ∈ TW := twm (by decide +kernel) (by decide +kernel)
theorem seMO_keepersOf : Cond.selects nMO yMO_keepersOf yMO_keepersOf ∈ TW := twm (by decide +kernel) (by decide +kernel)
theorem imMO_keepersOf : Cond.instanceMethod yMO_keepersOf ∈ TW := twm (by decide +kernel) (by decide +kernel)
theorem lkMO_175 : Cond.methodLink nMO 175 yMO_taken ∈ TW := twm (by decide +kernel) (by decide +kernel)
theorem seMO_taken : Cond.selects nMO yMO_taken yMO_taken ∈ TW := twm (by decide +kernel) (by decide +kernel)
theorem imMO_taken : Cond.instanceMethod yMO_taken ∈ TW := twm (by decide +kernel) (by decide +kernel)
theorem lkMO_181 : Cond.methodLink nMO 181 yMO_orbitOf ∈ TW := twm (by decide +kernel) (by decide +kernel)
theorem seMO_orbitOf : Cond.selects nMO yMO_orbitOf yMO_orbitOf ∈ TW := twm (by decide +kernel) (by decide +kernel)
theorem imMO_orbitOf : Cond.instanceMethod yMO_orbitOf ∈ TW := twm (by decide +kernel) (by decide +kernel)
theorem lkLW_65 : Cond.methodLink nLW 65 yMO_keepers ∈ TW := twm (by decide +kernel) (by decide +kernel)
theorem imMO_keepers : Cond.instanceMethod yMO_keepers ∈ TW := twm (by decide +kernel) (by decide +kernel)
theorem seMO_keepers : Cond.selects nMO yMO_keepers yMO_keepers ∈ TW := twm (by decide +kernel) (by decide +kernel)
end
section
/-! The machine's ints as integers; rows over integers; contracts of one form. -/
def iI (z : Int) : Int32 := Int32.ofInt z
theorem iI_add (a b : Int) : iI a + iI b = iI (a + b) := (Int32.ofInt_add a b).symm
theorem iI_sub (a b : Int) : iI a - iI b = iI (a - b) := (Int32.ofInt_sub a b).symm
theorem iI_mul (a b : Int) : iI a * iI b = iI (a * b) := (Int32.ofInt_mul a b).symm
theorem iI_toInt {z : Int} (h : -2147483648 ≤ z ∧ z < 2147483648) : (iI z).toInt = z := Int32.toInt_ofInt_of_le (by omega) (by omega)
theorem iI_le {a b : Int} (ha : -2147483648 ≤ a ∧ a < 2147483648) (hb : -2147483648 ≤ b ∧ b < 2147483648) : iI a ≤ iI b ↔ a ≤ b := by
  rw [Int32.le_iff_toInt_le, iI_toInt ha, iI_toInt hb]
theorem iI_lt {a b : Int} (ha : -2147483648 ≤ a ∧ a < 2147483648) (hb : -2147483648 ≤ b ∧ b < 2147483648) : iI a < iI b ↔ a < b := by
  rw [Int32.lt_iff_toInt_lt, iI_toInt ha, iI_toInt hb]
theorem iI_eq {a b : Int} (ha : -2147483648 ≤ a ∧ a < 2147483648) (hb : -2147483648 ≤ b ∧ b < 2147483648) : iI a = iI b ↔ a = b := by
  rw [← Int32.toInt_inj, iI_toInt ha, iI_toInt hb]
theorem iI_of (x : Int32) : ∃ z : Int, (-2147483648 ≤ z ∧ z < 2147483648) ∧ x = iI z := ⟨x.toInt, ⟨by have := x.le_toInt; omega, by have := x.toInt_lt; omega⟩, (Int32.ofInt_toInt x).symm⟩
theorem iI_nI (n : Nat) : nI n = iI (n : Int) := (Int32.ofInt_eq_ofNat).symm
theorem iI_0 : iI 0 = 0 := rfl
theorem iI_div {a b : Int} (ha : 0 ≤ a ∧ a < 2147483648) (hb : 0 < b ∧ b < 2147483648) : iI a / iI b = iI (a / b) := by
  obtain ⟨n, rfl⟩ := Int.eq_ofNat_of_zero_le ha.1
  obtain ⟨d, rfl⟩ := Int.eq_ofNat_of_zero_le (Int.le_of_lt hb.1)
  have h := pk_div (a := n) (d := d) (by omega) (by omega) (by omega)
  rw [iI_nI, iI_nI, iI_nI] at h
  rw [h, Int.natCast_ediv]
theorem iI_rem {a b : Int} (ha : 0 ≤ a ∧ a < 2147483648) (hb : 0 < b ∧ b < 2147483648) : iI a - iI a / iI b * iI b = iI (a % b) := by
  rw [iI_div ha hb, iI_mul, iI_sub]
  congr 1
  have h1 := Int.mul_ediv_add_emod a b
  have h2 : a / b * b = b * (a / b) := Int.mul_comm _ _
  omega
theorem iI_ne0 {b : Int} (hb : 0 < b ∧ b < 2147483648) : ¬ iI b = 0 := by
  rw [← iI_0, iI_eq (by omega) (by omega)]
  omega
theorem iI_clamp {z : Int} (h : 0 ≤ z ∧ z < 2147483648) : (iI z).toNatClampNeg = z.toNat := by
  rw [← Int32.toNat_toInt, iI_toInt (by omega)]
theorem vp_in_iI {z : Int} {n : Nat} (h : 0 ≤ z ∧ z < (n : Int)) (h2 : z < 2147483648) : vp_in (iI z) n := by
  rw [vp_in_iff, iI_toInt (by omega)]
  exact h
def zf (f : Nat → Int) : Nat → Int32 := fun j => iI (f j)
def zu (f : Nat → Int) (k : Nat) (v : Int) : Nat → Int := fun j => if j = k then v else f j
theorem zu_s (f : Nat → Int) (k : Nat) (v : Int) : zu f k v k = v := if_pos rfl
theorem zu_n (f : Nat → Int) {k j : Nat} (v : Int) (h : j ≠ k) : zu f k v j = f j := if_neg h
theorem zf_upd (f : Nat → Int) (k : Nat) (v : Int) : upd (zf f) k (iI v) = zf (zu f k v) := by
  funext j
  unfold upd zf zu
  split <;> rfl
section LZ
variable {p : Program} {l : Launch} {e : Env} {R : Room} {s : State} {m : MethodId} {args : Array Value} {below : List Frame} {meth : Method} {c : Code} {H : Heap} {locs : List Loc} {cells slots : Nat} {Q : State → Prop}
variable {cc : ByteArray} {pc : Nat} {ls : Array Slot} {rest : List Value}
theorem lz_iadd (hexec : p.tables.exec = Jvm.exec) (hb : c.code = cc) {x y : Int} (hdg : decode cc pc = .ok (.iadd, 1)) (k : W p l e R s m args below meth c H locs cells slots Q (F0 m (pc + 1) ls (.int (iI (x + y)) :: rest))) : W p l e R s m args below meth c H locs cells slots Q (F0 m pc ls (.int (iI y) :: .int (iI x) :: rest)) :=
  lv_iadd hexec hb hdg (by rw [iI_add]; exact k)
theorem lz_isub (hexec : p.tables.exec = Jvm.exec) (hb : c.code = cc) {x y : Int} (hdg : decode cc pc = .ok (.isub, 1)) (k : W p l e R s m args below meth c H locs cells slots Q (F0 m (pc + 1) ls (.int (iI (x - y)) :: rest))) : W p l e R s m args below meth c H locs cells slots Q (F0 m pc ls (.int (iI y) :: .int (iI x) :: rest)) :=
  lv_isub hexec hb hdg (by rw [iI_sub]; exact k)
theorem lz_imul (hexec : p.tables.exec = Jvm.exec) (hb : c.code = cc) {x y : Int} (hdg : decode cc pc = .ok (.imul, 1)) (k : W p l e R s m args below meth c H locs cells slots Q (F0 m (pc + 1) ls (.int (iI (x * y)) :: rest))) : W p l e R s m args below meth c H locs cells slots Q (F0 m pc ls (.int (iI y) :: .int (iI x) :: rest)) :=
  lv_imul hexec hb hdg (by rw [iI_mul]; exact k)
theorem lz_idiv (hexec : p.tables.exec = Jvm.exec) (hb : c.code = cc) {x y : Int} (hdg : decode cc pc = .ok (.idiv, 1)) (hx : 0 ≤ x ∧ x < 2147483648) (hy : 0 < y ∧ y < 2147483648) (k : W p l e R s m args below meth c H locs cells slots Q (F0 m (pc + 1) ls (.int (iI (x / y)) :: rest))) : W p l e R s m args below meth c H locs cells slots Q (F0 m pc ls (.int (iI y) :: .int (iI x) :: rest)) :=
  lv_idiv hexec hb hdg (iI_ne0 hy) (by rw [iI_div hx hy]; exact k)
theorem lz_irem (hexec : p.tables.exec = Jvm.exec) (hb : c.code = cc) {x y : Int} (hdg : decode cc pc = .ok (.irem, 1)) (hx : 0 ≤ x ∧ x < 2147483648) (hy : 0 < y ∧ y < 2147483648) (k : W p l e R s m args below meth c H locs cells slots Q (F0 m (pc + 1) ls (.int (iI (x % y)) :: rest))) : W p l e R s m args below meth c H locs cells slots Q (F0 m pc ls (.int (iI y) :: .int (iI x) :: rest)) :=
  lv_irem hexec hb hdg (iI_ne0 hy) (by rw [iI_rem hx hy]; exact k)
theorem lz_iinc (hexec : p.tables.exec = Jvm.exec) (hb : c.code = cc) {i nL k : Nat} {n x : Int} {lv lv' : List (Nat × Value)} (hdg : decode cc pc = .ok (.iinc i n, 3)) (h : lv_has ls nL lv) (hk : lv[k]? = some (i, .int (iI x))) (hn : i < nL) (hl : (i, Value.int (iI (x + n))) :: lv.filter (fun q => !(q.1 == i) && !(q.1 + 1 == i && q.2.category == 2)) = lv')
    (kk : ∀ ls' : Array Slot, lv_has ls' nL lv' → W p l e R s m args below meth c H locs cells slots Q (F0 m (pc + 3) ls' rest)) : W p l e R s m args below meth c H locs cells slots Q (F0 m pc ls rest) :=
  lv_iinc hexec hb hdg h hk (iI_add x n) hn hl kk
theorem lz_icmp_eq (hexec : p.tables.exec = Jvm.exec) (hb : c.code = cc) {x y : Int} {off : Int} {tgt : Nat} (hdg : decode cc pc = .ok (.if_icmp .eq off, 3)) (ht : (pc : Int) + off = (tgt : Int)) (hx : -2147483648 ≤ x ∧ x < 2147483648) (hy : -2147483648 ≤ y ∧ y < 2147483648)
    (kt : x = y → W p l e R s m args below meth c H locs cells slots Q (F0 m tgt ls rest)) (kf : x ≠ y → W p l e R s m args below meth c H locs cells slots Q (F0 m (pc + 3) ls rest)) : W p l e R s m args below meth c H locs cells slots Q (F0 m pc ls (.int (iI y) :: .int (iI x) :: rest)) :=
  lv_icmp_eq hexec hb hdg ht (fun h => kt ((iI_eq hx hy).mp h)) (fun h => kf (fun q => h ((iI_eq hx hy).mpr q)))
theorem lz_icmp_ne (hexec : p.tables.exec = Jvm.exec) (hb : c.code = cc) {x y : Int} {off : Int} {tgt : Nat} (hdg : decode cc pc = .ok (.if_icmp .ne off, 3)) (ht : (pc : Int) + off = (tgt : Int)) (hx : -2147483648 ≤ x ∧ x < 2147483648) (hy : -2147483648 ≤ y ∧ y < 2147483648)
    (kt : x ≠ y → W p l e R s m args below meth c H locs cells slots Q (F0 m tgt ls rest)) (kf : x = y → W p l e R s m args below meth c H locs cells slots Q (F0 m (pc + 3) ls rest)) : W p l e R s m args below meth c H locs cells slots Q (F0 m pc ls (.int (iI y) :: .int (iI x) :: rest)) :=
  lv_icmp_ne hexec hb hdg ht (fun h => kt (fun q => h ((iI_eq hx hy).mpr q))) (fun h => kf ((iI_eq hx hy).mp h))
theorem lz_icmp_lt (hexec : p.tables.exec = Jvm.exec) (hb : c.code = cc) {x y : Int} {off : Int} {tgt : Nat} (hdg : decode cc pc = .ok (.if_icmp .lt off, 3)) (ht : (pc : Int) + off = (tgt : Int)) (hx : -2147483648 ≤ x ∧ x < 2147483648) (hy : -2147483648 ≤ y ∧ y < 2147483648)
    (kt : x < y → W p l e R s m args below meth c H locs cells slots Q (F0 m tgt ls rest)) (kf : y ≤ x → W p l e R s m args below meth c H locs cells slots Q (F0 m (pc + 3) ls rest)) : W p l e R s m args below meth c H locs cells slots Q (F0 m pc ls (.int (iI y) :: .int (iI x) :: rest)) :=
  lv_icmp_lt hexec hb hdg ht (fun h => kt ((iI_lt hx hy).mp h)) (fun h => kf (Int.not_lt.mp fun q => h ((iI_lt hx hy).mpr q)))
theorem lz_icmp_ge (hexec : p.tables.exec = Jvm.exec) (hb : c.code = cc) {x y : Int} {off : Int} {tgt : Nat} (hdg : decode cc pc = .ok (.if_icmp .ge off, 3)) (ht : (pc : Int) + off = (tgt : Int)) (hx : -2147483648 ≤ x ∧ x < 2147483648) (hy : -2147483648 ≤ y ∧ y < 2147483648)
    (kt : y ≤ x → W p l e R s m args below meth c H locs cells slots Q (F0 m tgt ls rest)) (kf : x < y → W p l e R s m args below meth c H locs cells slots Q (F0 m (pc + 3) ls rest)) : W p l e R s m args below meth c H locs cells slots Q (F0 m pc ls (.int (iI y) :: .int (iI x) :: rest)) :=
  lv_icmp_ge hexec hb hdg ht (fun h => kt ((iI_le hy hx).mp h)) (fun h => kf (Int.not_le.mp fun q => h ((iI_le hy hx).mpr q)))
theorem lz_icmp_gt (hexec : p.tables.exec = Jvm.exec) (hb : c.code = cc) {x y : Int} {off : Int} {tgt : Nat} (hdg : decode cc pc = .ok (.if_icmp .gt off, 3)) (ht : (pc : Int) + off = (tgt : Int)) (hx : -2147483648 ≤ x ∧ x < 2147483648) (hy : -2147483648 ≤ y ∧ y < 2147483648)
    (kt : y < x → W p l e R s m args below meth c H locs cells slots Q (F0 m tgt ls rest)) (kf : x ≤ y → W p l e R s m args below meth c H locs cells slots Q (F0 m (pc + 3) ls rest)) : W p l e R s m args below meth c H locs cells slots Q (F0 m pc ls (.int (iI y) :: .int (iI x) :: rest)) :=
  lv_icmp_gt hexec hb hdg ht (fun h => kt ((iI_lt hy hx).mp h)) (fun h => kf (Int.not_lt.mp fun q => h ((iI_lt hy hx).mpr q)))
theorem lz_icmp_le (hexec : p.tables.exec = Jvm.exec) (hb : c.code = cc) {x y : Int} {off : Int} {tgt : Nat} (hdg : decode cc pc = .ok (.if_icmp .le off, 3)) (ht : (pc : Int) + off = (tgt : Int)) (hx : -2147483648 ≤ x ∧ x < 2147483648) (hy : -2147483648 ≤ y ∧ y < 2147483648)
    (kt : x ≤ y → W p l e R s m args below meth c H locs cells slots Q (F0 m tgt ls rest)) (kf : y < x → W p l e R s m args below meth c H locs cells slots Q (F0 m (pc + 3) ls rest)) : W p l e R s m args below meth c H locs cells slots Q (F0 m pc ls (.int (iI y) :: .int (iI x) :: rest)) :=
  lv_icmp_le hexec hb hdg ht (fun h => kt ((iI_le hx hy).mp h)) (fun h => kf (Int.not_le.mp fun q => h ((iI_le hx hy).mpr q)))
theorem lz_if_eq (hexec : p.tables.exec = Jvm.exec) (hb : c.code = cc) {x : Int} {off : Int} {tgt : Nat} (hdg : decode cc pc = .ok (.ifCond .eq off, 3)) (ht : (pc : Int) + off = (tgt : Int)) (hx : -2147483648 ≤ x ∧ x < 2147483648)
    (kt : x = 0 → W p l e R s m args below meth c H locs cells slots Q (F0 m tgt ls rest)) (kf : x ≠ 0 → W p l e R s m args below meth c H locs cells slots Q (F0 m (pc + 3) ls rest)) : W p l e R s m args below meth c H locs cells slots Q (F0 m pc ls (.int (iI x) :: rest)) :=
  lv_if_eq hexec hb hdg ht (fun h => kt ((iI_eq (b := 0) hx (by omega)).mp h)) (fun h => kf (fun q => h ((iI_eq (b := 0) hx (by omega)).mpr q)))
theorem lz_if_ne (hexec : p.tables.exec = Jvm.exec) (hb : c.code = cc) {x : Int} {off : Int} {tgt : Nat} (hdg : decode cc pc = .ok (.ifCond .ne off, 3)) (ht : (pc : Int) + off = (tgt : Int)) (hx : -2147483648 ≤ x ∧ x < 2147483648)
    (kt : x ≠ 0 → W p l e R s m args below meth c H locs cells slots Q (F0 m tgt ls rest)) (kf : x = 0 → W p l e R s m args below meth c H locs cells slots Q (F0 m (pc + 3) ls rest)) : W p l e R s m args below meth c H locs cells slots Q (F0 m pc ls (.int (iI x) :: rest)) :=
  lv_if_ne hexec hb hdg ht (fun h => kt (fun q => h ((iI_eq (b := 0) hx (by omega)).mpr q))) (fun h => kf ((iI_eq (b := 0) hx (by omega)).mp h))
theorem lz_if_lt (hexec : p.tables.exec = Jvm.exec) (hb : c.code = cc) {x : Int} {off : Int} {tgt : Nat} (hdg : decode cc pc = .ok (.ifCond .lt off, 3)) (ht : (pc : Int) + off = (tgt : Int)) (hx : -2147483648 ≤ x ∧ x < 2147483648)
    (kt : x < 0 → W p l e R s m args below meth c H locs cells slots Q (F0 m tgt ls rest)) (kf : 0 ≤ x → W p l e R s m args below meth c H locs cells slots Q (F0 m (pc + 3) ls rest)) : W p l e R s m args below meth c H locs cells slots Q (F0 m pc ls (.int (iI x) :: rest)) :=
  lv_if_lt hexec hb hdg ht (fun h => kt ((iI_lt (b := 0) hx (by omega)).mp h)) (fun h => kf (Int.not_lt.mp fun q => h ((iI_lt (b := 0) hx (by omega)).mpr q)))
theorem lz_if_ge (hexec : p.tables.exec = Jvm.exec) (hb : c.code = cc) {x : Int} {off : Int} {tgt : Nat} (hdg : decode cc pc = .ok (.ifCond .ge off, 3)) (ht : (pc : Int) + off = (tgt : Int)) (hx : -2147483648 ≤ x ∧ x < 2147483648)
    (kt : 0 ≤ x → W p l e R s m args below meth c H locs cells slots Q (F0 m tgt ls rest)) (kf : x < 0 → W p l e R s m args below meth c H locs cells slots Q (F0 m (pc + 3) ls rest)) : W p l e R s m args below meth c H locs cells slots Q (F0 m pc ls (.int (iI x) :: rest)) :=
  lv_if_ge hexec hb hdg ht (fun h => kt ((iI_le (a := 0) (by omega) hx).mp h)) (fun h => kf (Int.not_le.mp fun q => h ((iI_le (a := 0) (by omega) hx).mpr q)))
theorem lz_if_gt (hexec : p.tables.exec = Jvm.exec) (hb : c.code = cc) {x : Int} {off : Int} {tgt : Nat} (hdg : decode cc pc = .ok (.ifCond .gt off, 3)) (ht : (pc : Int) + off = (tgt : Int)) (hx : -2147483648 ≤ x ∧ x < 2147483648)
    (kt : 0 < x → W p l e R s m args below meth c H locs cells slots Q (F0 m tgt ls rest)) (kf : x ≤ 0 → W p l e R s m args below meth c H locs cells slots Q (F0 m (pc + 3) ls rest)) : W p l e R s m args below meth c H locs cells slots Q (F0 m pc ls (.int (iI x) :: rest)) :=
  lv_if_gt hexec hb hdg ht (fun h => kt ((iI_lt (a := 0) (by omega) hx).mp h)) (fun h => kf (Int.not_lt.mp fun q => h ((iI_lt (a := 0) (by omega) hx).mpr q)))
theorem lz_if_le (hexec : p.tables.exec = Jvm.exec) (hb : c.code = cc) {x : Int} {off : Int} {tgt : Nat} (hdg : decode cc pc = .ok (.ifCond .le off, 3)) (ht : (pc : Int) + off = (tgt : Int)) (hx : -2147483648 ≤ x ∧ x < 2147483648)
    (kt : x ≤ 0 → W p l e R s m args below meth c H locs cells slots Q (F0 m tgt ls rest)) (kf : 0 < x → W p l e R s m args below meth c H locs cells slots Q (F0 m (pc + 3) ls rest)) : W p l e R s m args below meth c H locs cells slots Q (F0 m pc ls (.int (iI x) :: rest)) :=
  lv_if_le hexec hb hdg ht (fun h => kt ((iI_le (b := 0) hx (by omega)).mp h)) (fun h => kf (Int.not_le.mp fun q => h ((iI_le (b := 0) hx (by omega)).mpr q)))
variable {D : va_G} {cl : List vw_C} {A : Nat → Prop} {a : Nat} {tys : List (ClassId × FieldType)} {ws : va_W} {H0 : Heap}
theorem lz_iald (hexec : p.tables.exec = Jvm.exec) (hb : c.code = cc) (hK : va_K D cl tys s) (hP : va_P D cl ws H) (q0 t0 : Nat) {cA : ClassId} {n : Nat} {f : Nat → Int} (ha : ws[q0]? = some (a, .inl (cA, n, .inl (zf f)))) (ht : tys[t0]? = some (cA, .int)) {z : Int} (hz : (0 ≤ z ∧ z < (n : Int)) ∧ z < 2147483648) (hdg : decode cc pc = .ok (.iaload, 1))
    (kk : W p l e R s m args below meth c H locs cells slots Q (F0 m (pc + 1) ls (.int (iI (f z.toNat)) :: rest))) : W p l e R s m args below meth c H locs cells slots Q (F0 m pc ls (.int (iI z) :: .ref a :: rest)) :=
  va_iald hexec hb hK hP q0 t0 ha ht (vp_in_iI hz.1 hz.2) hdg (by rw [iI_clamp ⟨hz.1.1, hz.2⟩]; exact kk)
theorem lz_iast (hexec : p.tables.exec = Jvm.exec) (hb : c.code = cc) (hK : va_K D cl tys s) (hP : va_P D cl ws H) (hD : va_D A ws) (hS : va_S A H0 H locs) (q0 t0 : Nat) {cA : ClassId} {n : Nat} {f : Nat → Int} (ha : ws[q0]? = some (a, .inl (cA, n, .inl (zf f)))) (ht : tys[t0]? = some (cA, .int)) {z v : Int} (hz : (0 ≤ z ∧ z < (n : Int)) ∧ z < 2147483648) (hdg : decode cc pc = .ok (.iastore, 1))
    (kk : ∀ (H1 : Heap) (locs1 : List Loc), va_P D cl (ws.set q0 (a, .inl (cA, n, .inl (zf (zu f z.toNat v))))) H1 → va_D A (ws.set q0 (a, .inl (cA, n, .inl (zf (zu f z.toNat v))))) → va_S A H0 H1 locs1 → W p l e R s m args below meth c H1 locs1 cells slots Q (F0 m (pc + 1) ls rest)) : W p l e R s m args below meth c H locs cells slots Q (F0 m pc ls (.int (iI v) :: .int (iI z) :: .ref a :: rest)) :=
  va_iast hexec hb hK hP hD hS q0 t0 ha ht (vp_in_iI hz.1 hz.2) hdg (by rw [iI_clamp ⟨hz.1.1, hz.2⟩, zf_upd]; exact kk)
theorem lz_alen (hexec : p.tables.exec = Jvm.exec) (hb : c.code = cc) (hK : va_K D cl tys s) (hP : va_P D cl ws H) (q0 t0 : Nat) {cA : ClassId} {x : vp_A} (ha : ws[q0]? = some (a, .inl (cA, x))) {ty : FieldType} (ht : tys[t0]? = some (cA, ty)) (hdg : decode cc pc = .ok (.arraylength, 1))
    (kk : W p l e R s m args below meth c H locs cells slots Q (F0 m (pc + 1) ls (.int (iI (x.1 : Int)) :: rest))) : W p l e R s m args below meth c H locs cells slots Q (F0 m pc ls (.ref a :: rest)) :=
  va_alen hexec hb hK hP q0 t0 ha ht (iI_nI x.1) hdg kk
theorem lz_newa (hexec : p.tables.exec = Jvm.exec) (hb : c.code = cc) (harr : (Cond.arrayClass .int).before args s = true) (hK : va_K D cl tys s) (hP : va_P D cl ws H) (hD : va_D A ws) (hS : va_S A H0 H locs) (hA : ∀ q, H0.size ≤ q → A q) (t0 : Nat) {cI : ClassId} (ht : tys[t0]? = some (cI, .int))
    {z : Int} {N : Nat} (hz : z = (N : Int)) (hN : N ≤ 100000) (hcells : cells + 1 ≤ R.cells) (hslots : slots + N ≤ R.slots) (hdg : decode cc pc = .ok (.newarray .int, 2))
    (kk : ∀ (q : Nat) (H1 : Heap), va_P D cl (ws ++ [(q, .inl (cI, N, .inl (zf fun _ => 0)))]) H1 → va_D A (ws ++ [(q, .inl (cI, N, .inl (zf fun _ => 0)))]) → va_S A H0 H1 locs →
      W p l e R s m args below meth c H1 locs (cells + 1) (slots + N) Q (F0 m (pc + 2) ls (.ref q :: rest))) : W p l e R s m args below meth c H locs cells slots Q (F0 m pc ls (.int (iI z) :: rest)) := by
  subst hz
  refine va_newa (atype := .int) hexec hb (ty := .int) (n := iI (N : Int)) (N' := N) (a0 := (N, .inl (zf fun _ => 0))) harr rfl hK hP hD hS hA (fun cA => congrArg (arrV cA N) (funext fun j => congrArg Value.int iI_0)) ?_ ?_ ?_ hcells hslots hdg (fun q cA H1 hK1 hP1 hD1 hS1 => ?_)
  · rw [← iI_0, iI_lt (by omega) (by omega)]; omega
  · rw [iI_clamp (by omega)]; omega
  · simp only [componentBytes]; omega
  · have e1 : s.vm.findClass ("[" ++ FieldType.int.toString) = some cA := (hK1.2 tys.length (cA, .int) (by simp)).2
    have e2 : s.vm.findClass ("[" ++ FieldType.int.toString) = some cI := (hK.2 t0 (cI, .int) ht).2
    have e3 : cA = cI := Option.some.inj (e1.symm.trans e2)
    subst e3
    exact kk q H1 hP1 hD1 hS1
theorem lz_as {x y : Int} (h : x = y) (k : W p l e R s m args below meth c H locs cells slots Q (F0 m pc ls (.int (iI y) :: rest))) : W p l e R s m args below meth c H locs cells slots Q (F0 m pc ls (.int (iI x) :: rest)) := by subst h; exact k
theorem lz_ishl (hexec : p.tables.exec = Jvm.exec) (hb : c.code = cc) {x y : Int32} {z : Int} (hdg : decode cc pc = .ok (.ishl, 1)) (hz : x <<< (y &&& 31) = iI z) (k : W p l e R s m args below meth c H locs cells slots Q (F0 m (pc + 1) ls (.int (iI z) :: rest))) : W p l e R s m args below meth c H locs cells slots Q (F0 m pc ls (.int y :: .int x :: rest)) :=
  lv_ishl hexec hb hdg (by rw [hz]; exact k)
theorem lz_iand (hexec : p.tables.exec = Jvm.exec) (hb : c.code = cc) {x y : Int32} {z : Int} (hdg : decode cc pc = .ok (.iand, 1)) (hz : x &&& y = iI z) (k : W p l e R s m args below meth c H locs cells slots Q (F0 m (pc + 1) ls (.int (iI z) :: rest))) : W p l e R s m args below meth c H locs cells slots Q (F0 m pc ls (.int y :: .int x :: rest)) :=
  lv_iand hexec hb hdg (by rw [hz]; exact k)
theorem lz_ior (hexec : p.tables.exec = Jvm.exec) (hb : c.code = cc) {x y : Int32} {z : Int} (hdg : decode cc pc = .ok (.ior, 1)) (hz : x ||| y = iI z) (k : W p l e R s m args below meth c H locs cells slots Q (F0 m (pc + 1) ls (.int (iI z) :: rest))) : W p l e R s m args below meth c H locs cells slots Q (F0 m pc ls (.int y :: .int x :: rest)) :=
  lv_ior hexec hb hdg (by rw [hz]; exact k)
end LZ
end
section
/-! Contracts of one form: what is there before, what is there behind; the statics that nobody writes go along. -/
def st_sorts : List Int := [2, 3, 4, 6, 1]
def st_rows : List Int := [0, 10000, 100000000, 1000, 100011000, 300000000, 100002000, 300013000, 102000000, 100000020, 102011020, 502000000, 102004000, 300002020, 502015020, 20000000, 20010200, 320000000, 20003000, 320013200, 120200000, 20001002, 120211202, 720200000, 120206000, 320004002, 720217202, 380000000, 380013800, 986000000, 380006060, 986019860]
def stT (xs : List Int) : Nat → Value := fun j => .int (iI (xs.getD j 0))
def stW (U : State) : Prop := va_Nw (.methodLinkNest nGH 28 yBE_init nGH) U ∧ va_Nw (.methodLinkNest nGR 54 yGH_classOf nGH) U ∧ va_Nw (.fieldLinkNest nBE 26 "GroupHalls" "SORTS" "[I" nGH) U
theorem stW.warm {s U : State} (hW : s.WarmedH U.vm) (h : stW s) : stW U := ⟨h.1.warmM hW, h.2.1.warmM hW, h.2.2.warmF hW⟩
theorem stW.same {s U : State} (hv : s.vm = U.vm) (h : stW s) : stW U := ⟨h.1.same rfl hv, h.2.1.same rfl hv, h.2.2.same rfl hv⟩
def stF (A : Nat → Prop) (U : State) (H : Heap) : Prop := ∃ tS tC : Nat, va_Z "GroupHalls" "SORTS" "[I" (.ref tS) A U H ∧ va_T .int tS 5 (stT st_sorts) A U H ∧ va_Z "GroupHalls" "CLASS_ROWS" "[I" (.ref tC) A U H ∧ va_T .int tC 32 (stT st_rows) A U H ∧ stW U
theorem stF.warm {A : Nat → Prop} {u U : State} {H : Heap} (hW : u.WarmedH U.vm) (h : stF A u H) : stF A U H := by
  obtain ⟨tS, tC, h1, h2, h3, h4, h5⟩ := h
  exact ⟨tS, tC, h1.moved hW.alike, h2.moved hW.alike, h3.moved hW.alike, h4.moved hW.alike, h5.warm hW⟩
theorem stF.same {A : Nat → Prop} {u U : State} {H : Heap} (hv : u.vm = U.vm) (h : stF A u H) : stF A U H := by
  have ha : u.vm.Alike U.vm := by rw [hv]; exact Vm.Alike.refl _
  obtain ⟨tS, tC, h1, h2, h3, h4, h5⟩ := h
  exact ⟨tS, tC, h1.moved ha, h2.moved ha, h3.moved ha, h4.moved ha, h5.same hv⟩
theorem stF.kept {A : Nat → Prop} {U : State} {H H1 : Heap} (h : stF A U H) (hq : ∀ a : Nat, a < H.size → ¬ A a → H1[a]? = H[a]?) : stF A U H1 := by
  obtain ⟨tS, tC, h1, h2, h3, h4, h5⟩ := h
  exact ⟨tS, tC, h1.kept hq, h2.kept hq, h3.kept hq, h4.kept hq, h5⟩
theorem stF.narrow {A B : Nat → Prop} {U : State} {H : Heap} (h : stF A U H) (hAB : ∀ q, B q → A q) : stF B U H := by
  obtain ⟨tS, tC, h1, h2, h3, h4, h5⟩ := h
  exact ⟨tS, tC, h1.narrow hAB, h2.narrow hAB, h3.narrow hAB, h4.narrow hAB, h5⟩
def zPre (D : va_G) (cl : List vw_C) (tys : List (ClassId × FieldType)) (wc : va_W) (sz : Nat) (U : State) : Prop := U.heap.size = sz ∧ va_P D cl wc U.heap ∧ va_K D cl tys U ∧ va_D (fun _ => True) wc ∧ stF (va_A wc sz) U U.heap
def zPost {S : Type} (D : va_G) (cl : List vw_C) (tys : List (ClassId × FieldType)) (A : Nat → Prop) (w1 : S → va_W) (u : S) (t : State) : Prop := va_P D cl (w1 u) t.heap ∧ va_D A (w1 u)
theorem zPre_blind {av : List Value} {D : va_G} {cl : List vw_C} {tys : List (ClassId × FieldType)} {wc : va_W} {sz : Nat} : FrameBlind (va_Pc av (zPre D cl tys wc sz)) := fun a U g mk q => by
  obtain ⟨q0, q1, qP, qK, qD, qX⟩ := q
  exact ⟨q0, q1, qP, va_K.moved (u := U) (U := U.calling g mk a) (Vm.Alike.refl U.vm) qK, qD, stF.same (u := U) (U := U.calling g mk a) rfl qX⟩
def zRd (D : va_G) (cl : List vw_C) (tys : List (ClassId × FieldType)) (wc : va_W) (U : State) : Prop := va_P D cl wc U.heap ∧ va_K D cl tys U ∧ stF (fun _ => False) U U.heap
theorem zRd_blind {av : List Value} {D : va_G} {cl : List vw_C} {tys : List (ClassId × FieldType)} {wc : va_W} : FrameBlind (va_Pc av (zRd D cl tys wc)) := fun a U g mk q => by
  obtain ⟨q0, qP, qK, qX⟩ := q
  exact ⟨q0, qP, va_K.moved (u := U) (U := U.calling g mk a) (Vm.Alike.refl U.vm) qK, stF.same (u := U) (U := U.calling g mk a) rfl qX⟩
/-- an int comes back; the cells wc become w1 -/
def zI (l : Launch) (y : MethodName) (ws : List Cond) (rm : Room) (D : va_G) (cl : List vw_C) (tys : List (ClassId × FieldType)) (av : List Value) (wc : va_W) {S : Type} (post : Int → S → Prop) (w1 : S → va_W) : Prop :=
  ∀ sz : Nat, Met l y ws rm (va_Pc av (zPre D cl tys wc sz)) (va_Qi (fun r u => ∃ z : Int, r = iI z ∧ post z u) (zPost D cl tys (va_A wc sz) w1) (va_A wc sz)) rm.cells rm.slots (va_A wc sz)
/-- nothing comes back; the cells wc become w1 -/
def zV (l : Launch) (y : MethodName) (ws : List Cond) (rm : Room) (D : va_G) (cl : List vw_C) (tys : List (ClassId × FieldType)) (av : List Value) (wc : va_W) {S : Type} (post : S → Prop) (w1 : S → va_W) : Prop :=
  ∀ sz : Nat, Met l y ws rm (va_Pc av (zPre D cl tys wc sz)) (va_Qv post (zPost D cl tys (va_A wc sz) w1) (va_A wc sz)) rm.cells rm.slots (va_A wc sz)
/-- a reference (or null) comes back; the cells wc become w1 -/
def zQ (l : Launch) (y : MethodName) (ws : List Cond) (rm : Room) (D : va_G) (cl : List vw_C) (tys : List (ClassId × FieldType)) (av : List Value) (wc : va_W) {S : Type} (post : Option Nat → S → Prop) (w1 : S → va_W) : Prop :=
  ∀ sz : Nat, Met l y ws rm (va_Pc av (zPre D cl tys wc sz)) (va_Qq post (zPost D cl tys (va_A wc sz) w1) (va_A wc sz)) rm.cells rm.slots (va_A wc sz)
/-- an int comes back; nothing changes -/
def zRI (l : Launch) (y : MethodName) (ws : List Cond) (rm : Room) (D : va_G) (cl : List vw_C) (tys : List (ClassId × FieldType)) (av : List Value) (wc : va_W) (post : Int → Prop) : Prop :=
  Met l y ws rm (va_Pc av (zRd D cl tys wc)) (vp_Si (fun r => ∃ z : Int, r = iI z ∧ post z)) 0 0 (fun _ => False)
/-- a reference (or null) comes back; nothing changes -/
def zRQ (l : Launch) (y : MethodName) (ws : List Cond) (rm : Room) (D : va_G) (cl : List vw_C) (tys : List (ClassId × FieldType)) (av : List Value) (wc : va_W) (post : Option Nat → Prop) : Prop :=
  Met l y ws rm (va_Pc av (zRd D cl tys wc)) (va_Sq post) 0 0 (fun _ => False)
section ZOF
variable {l : Launch} {y : MethodName} {ws ws' : List Cond} {rm : Room} {D : va_G} {cl : List vw_C} {tys : List (ClassId × FieldType)} {av : List Value} {wc : va_W} {S : Type} {cc : ByteArray} {maxL : Nat}
theorem zI.of {post : Int → S → Prop} {w1 : S → va_W} {rt : FieldType} (hy : plainName y.cls = true) (hw : ws = Cond.code y cc maxL (some rt) :: ws') (hlen : (lg_sl av).length ≤ maxL) (hnar : ∀ z u, post z u → narrow rt (.int (iI z)) = .int (iI z))
    (body : ∀ (p : Program) (e : Env) (s : State) (m : MethodId) (args : Array Value) (below : List Frame) (meth : Method) (c : Code) (A : Nat → Prop) (ls : Array Slot) (Q : State → Prop), p.tables.exec = Jvm.exec → c.code = cc → c.maxLocals = maxL → s.vm.findClass y.cls = some m.cls → (∀ w ∈ ws, w.before args s = true) → meth.name = y.name → va_K D cl tys s → va_D A wc → (∀ q, s.heap.size ≤ q → A q) → A = va_A wc s.heap.size → stF A s s.heap → lv_has ls maxL (lv_args 0 av) →
      (∀ (H : Heap) (locs : List Loc) (cells slots pc : Nat) (ls : Array Slot) (z : Int) (u : S), post z u → va_P D cl (w1 u) H → va_D A (w1 u) → va_S A s.heap H locs → cells ≤ rm.cells → slots ≤ rm.slots → decode cc pc = .ok (.ireturn, 1) → W p l e (headSpec ws rm).room s m args below meth c H locs cells slots Q (F0 m pc ls [.int (iI z)])) →
      ∀ (H : Heap) (locs : List Loc), va_P D cl wc H → va_S A s.heap H locs → W p l e (headSpec ws rm).room s m args below meth c H locs 0 0 Q (F0 m 0 ls [])) : zI l y ws rm D cl tys av wc post w1 := by
  intro sz
  refine Met.ofW (cc := cc) (maxL := maxL) (ret := some rt) hy hw ?_
  intro p e s m args below meth c s₁ B hml hv
  obtain ⟨hav, hsz, hP, hK, hD0, hX⟩ := hv
  have hx := B.exec
  have hb := B.bytes
  have hr := B.returns
  have hts := atoms_spec (ws := ws) B.pre
  have hown : s.vm.findClass y.cls = some m.cls := findClass_of_methodNamed B.named
  have hlocks := B.notSynchronized
  have hnm : meth.name = y.name := (name_of_methodNamed B.named B.method).1
  subst hsz
  have hl := lv_entry av (n := maxL) hlen
  rw [show entryFrame m args maxL = F0 m 0 ((lg_sl av ++ List.replicate (maxL - (lg_sl av).length) Slot.unset).toArray) [] by rw [hav]; exact lg_entry_eq m av maxL]
  refine body p e s m args below meth c _ _ _ hx hb hml hown hts hnm hK (hD0.self (sz := s.heap.size)) (fun q h => Or.inr h) rfl hX hl ?_ s.heap [] hP va_S.rf
  intro H locs cells slots pc ls z u hpost hP1 hD1 hS hc hs hdg
  refine W.widen hc hs ?_
  exact W.zret (v := iI z) hx hb hr (hnar z u hpost) (fun t ht hW => ⟨⟨iI z, u, rfl, ⟨z, rfl, hpost⟩, by rw [ht]; exact hP1, hD1⟩, hS.F ht⟩) hS.2.2 hdg
theorem zV.of {post : S → Prop} {w1 : S → va_W} (hy : plainName y.cls = true) (hw : ws = Cond.code y cc maxL none :: ws') (hlen : (lg_sl av).length ≤ maxL)
    (body : ∀ (p : Program) (e : Env) (s : State) (m : MethodId) (args : Array Value) (below : List Frame) (meth : Method) (c : Code) (A : Nat → Prop) (ls : Array Slot) (Q : State → Prop), p.tables.exec = Jvm.exec → c.code = cc → c.maxLocals = maxL → s.vm.findClass y.cls = some m.cls → (∀ w ∈ ws, w.before args s = true) → meth.name = y.name → va_K D cl tys s → va_D A wc → (∀ q, s.heap.size ≤ q → A q) → A = va_A wc s.heap.size → stF A s s.heap → lv_has ls maxL (lv_args 0 av) →
      (∀ (H : Heap) (locs : List Loc) (cells slots pc : Nat) (ls : Array Slot) (u : S), post u → va_P D cl (w1 u) H → va_D A (w1 u) → va_S A s.heap H locs → cells ≤ rm.cells → slots ≤ rm.slots → decode cc pc = .ok (.return_, 1) → W p l e (headSpec ws rm).room s m args below meth c H locs cells slots Q (F0 m pc ls [])) →
      ∀ (H : Heap) (locs : List Loc), va_P D cl wc H → va_S A s.heap H locs → W p l e (headSpec ws rm).room s m args below meth c H locs 0 0 Q (F0 m 0 ls [])) : zV l y ws rm D cl tys av wc post w1 := by
  intro sz
  refine Met.ofW (cc := cc) (maxL := maxL) (ret := none) hy hw ?_
  intro p e s m args below meth c s₁ B hml hv
  obtain ⟨hav, hsz, hP, hK, hD0, hX⟩ := hv
  have hx := B.exec
  have hb := B.bytes
  have hr := B.returns
  have hts := atoms_spec (ws := ws) B.pre
  have hown : s.vm.findClass y.cls = some m.cls := findClass_of_methodNamed B.named
  have hlocks := B.notSynchronized
  have hnm : meth.name = y.name := (name_of_methodNamed B.named B.method).1
  subst hsz
  have hl := lv_entry av (n := maxL) hlen
  rw [show entryFrame m args maxL = F0 m 0 ((lg_sl av ++ List.replicate (maxL - (lg_sl av).length) Slot.unset).toArray) [] by rw [hav]; exact lg_entry_eq m av maxL]
  refine body p e s m args below meth c _ _ _ hx hb hml hown hts hnm hK (hD0.self (sz := s.heap.size)) (fun q h => Or.inr h) rfl hX hl ?_ s.heap [] hP va_S.rf
  intro H locs cells slots pc ls u hpost hP1 hD1 hS hc hs hdg
  refine W.widen hc hs ?_
  exact W.vret hx hb hr (fun t ht hW => ⟨⟨u, rfl, hpost, by rw [ht]; exact hP1, hD1⟩, hS.F ht⟩) hS.2.2 hdg
theorem zQ.of {post : Option Nat → S → Prop} {w1 : S → va_W} {rt : FieldType} (hy : plainName y.cls = true) (hw : ws = Cond.code y cc maxL (some rt) :: ws') (hlen : (lg_sl av).length ≤ maxL) (hrt : (∃ n, rt = .object n) ∨ ∃ t, rt = .array t)
    (body : ∀ (p : Program) (e : Env) (s : State) (m : MethodId) (args : Array Value) (below : List Frame) (meth : Method) (c : Code) (A : Nat → Prop) (ls : Array Slot) (Q : State → Prop), p.tables.exec = Jvm.exec → c.code = cc → c.maxLocals = maxL → s.vm.findClass y.cls = some m.cls → (∀ w ∈ ws, w.before args s = true) → meth.name = y.name → va_K D cl tys s → va_D A wc → (∀ q, s.heap.size ≤ q → A q) → A = va_A wc s.heap.size → stF A s s.heap → lv_has ls maxL (lv_args 0 av) →
      (∀ (H : Heap) (locs : List Loc) (cells slots pc : Nat) (ls : Array Slot) (r : Option Nat) (u : S), post r u → va_P D cl (w1 u) H → va_D A (w1 u) → va_S A s.heap H locs → cells ≤ rm.cells → slots ≤ rm.slots → decode cc pc = .ok (.areturn, 1) → W p l e (headSpec ws rm).room s m args below meth c H locs cells slots Q (F0 m pc ls [va_rf r])) →
      ∀ (H : Heap) (locs : List Loc), va_P D cl wc H → va_S A s.heap H locs → W p l e (headSpec ws rm).room s m args below meth c H locs 0 0 Q (F0 m 0 ls [])) : zQ l y ws rm D cl tys av wc post w1 := by
  intro sz
  refine Met.ofW (cc := cc) (maxL := maxL) (ret := some rt) hy hw ?_
  intro p e s m args below meth c s₁ B hml hv
  obtain ⟨hav, hsz, hP, hK, hD0, hX⟩ := hv
  have hx := B.exec
  have hb := B.bytes
  have hr := B.returns
  have hts := atoms_spec (ws := ws) B.pre
  have hown : s.vm.findClass y.cls = some m.cls := findClass_of_methodNamed B.named
  have hlocks := B.notSynchronized
  have hnm : meth.name = y.name := (name_of_methodNamed B.named B.method).1
  subst hsz
  have hl := lv_entry av (n := maxL) hlen
  rw [show entryFrame m args maxL = F0 m 0 ((lg_sl av ++ List.replicate (maxL - (lg_sl av).length) Slot.unset).toArray) [] by rw [hav]; exact lg_entry_eq m av maxL]
  refine body p e s m args below meth c _ _ _ hx hb hml hown hts hnm hK (hD0.self (sz := s.heap.size)) (fun q h => Or.inr h) rfl hX hl ?_ s.heap [] hP va_S.rf
  intro H locs cells slots pc ls r u hpost hP1 hD1 hS hc hs hdg
  refine W.widen hc hs ?_
  exact W.aret (v := va_rf r) hx hb hr hrt (by cases r with | none => exact Or.inl rfl | some a => exact Or.inr ⟨a, rfl⟩) (fun t ht hW => ⟨⟨r, u, rfl, hpost, by rw [ht]; exact hP1, hD1⟩, hS.F ht⟩) hS.2.2 hdg
theorem zRI.of {post : Int → Prop} {rt : FieldType} (hy : plainName y.cls = true) (hw : ws = Cond.code y cc maxL (some rt) :: ws') (hlen : (lg_sl av).length ≤ maxL) (hnar : ∀ z, post z → narrow rt (.int (iI z)) = .int (iI z))
    (body : ∀ (p : Program) (e : Env) (s : State) (m : MethodId) (args : Array Value) (below : List Frame) (meth : Method) (c : Code) (ls : Array Slot) (Q : State → Prop), p.tables.exec = Jvm.exec → c.code = cc → c.maxLocals = maxL → s.vm.findClass y.cls = some m.cls → (∀ w ∈ ws, w.before args s = true) → va_K D cl tys s → va_P D cl wc s.heap → stF (fun _ => False) s s.heap → lv_has ls maxL (lv_args 0 av) →
      (∀ (pc : Nat) (ls : Array Slot) (z : Int), post z → decode cc pc = .ok (.ireturn, 1) → W p l e (headSpec ws rm).room s m args below meth c s.heap [] 0 0 Q (F0 m pc ls [.int (iI z)])) →
      W p l e (headSpec ws rm).room s m args below meth c s.heap [] 0 0 Q (F0 m 0 ls [])) : zRI l y ws rm D cl tys av wc post := by
  refine Met.ofW (cc := cc) (maxL := maxL) (ret := some rt) hy hw ?_
  intro p e s m args below meth c s₁ B hml hv
  obtain ⟨hav, hP, hK, hX⟩ := hv
  have hx := B.exec
  have hb := B.bytes
  have hr := B.returns
  have hts := atoms_spec (ws := ws) B.pre
  have hown : s.vm.findClass y.cls = some m.cls := findClass_of_methodNamed B.named
  have hlocks := B.notSynchronized
  have hl := lv_entry av (n := maxL) hlen
  rw [show entryFrame m args maxL = F0 m 0 ((lg_sl av ++ List.replicate (maxL - (lg_sl av).length) Slot.unset).toArray) [] by rw [hav]; exact lg_entry_eq m av maxL]
  refine body p e s m args below meth c _ _ hx hb hml hown hts hK hP hX hl ?_
  intro pc ls z hpost hdg
  exact W.zret (v := iI z) hx hb hr (hnar z hpost) (fun t ht hW => ⟨iI z, rfl, ⟨z, rfl, hpost⟩, ht⟩) (fun _ h => by cases h) hdg
theorem zRQ.of {post : Option Nat → Prop} {rt : FieldType} (hy : plainName y.cls = true) (hw : ws = Cond.code y cc maxL (some rt) :: ws') (hlen : (lg_sl av).length ≤ maxL) (hrt : (∃ n, rt = .object n) ∨ ∃ t, rt = .array t)
    (body : ∀ (p : Program) (e : Env) (s : State) (m : MethodId) (args : Array Value) (below : List Frame) (meth : Method) (c : Code) (ls : Array Slot) (Q : State → Prop), p.tables.exec = Jvm.exec → c.code = cc → c.maxLocals = maxL → s.vm.findClass y.cls = some m.cls → (∀ w ∈ ws, w.before args s = true) → va_K D cl tys s → va_P D cl wc s.heap → stF (fun _ => False) s s.heap → lv_has ls maxL (lv_args 0 av) →
      (∀ (pc : Nat) (ls : Array Slot) (r : Option Nat), post r → decode cc pc = .ok (.areturn, 1) → W p l e (headSpec ws rm).room s m args below meth c s.heap [] 0 0 Q (F0 m pc ls [va_rf r])) →
      W p l e (headSpec ws rm).room s m args below meth c s.heap [] 0 0 Q (F0 m 0 ls [])) : zRQ l y ws rm D cl tys av wc post := by
  refine Met.ofW (cc := cc) (maxL := maxL) (ret := some rt) hy hw ?_
  intro p e s m args below meth c s₁ B hml hv
  obtain ⟨hav, hP, hK, hX⟩ := hv
  have hx := B.exec
  have hb := B.bytes
  have hr := B.returns
  have hts := atoms_spec (ws := ws) B.pre
  have hown : s.vm.findClass y.cls = some m.cls := findClass_of_methodNamed B.named
  have hlocks := B.notSynchronized
  have hl := lv_entry av (n := maxL) hlen
  rw [show entryFrame m args maxL = F0 m 0 ((lg_sl av ++ List.replicate (maxL - (lg_sl av).length) Slot.unset).toArray) [] by rw [hav]; exact lg_entry_eq m av maxL]
  refine body p e s m args below meth c _ _ hx hb hml hown hts hK hP hX hl ?_
  intro pc ls r hpost hdg
  exact W.aret (v := va_rf r) hx hb hr hrt (by cases r with | none => exact Or.inl rfl | some a => exact Or.inr ⟨a, rfl⟩) (fun t ht hW => ⟨r, rfl, hpost, ht⟩) (fun _ h => by cases h) hdg
end ZOF
section ZCALL
variable {p : Program} {l : Launch} {e : Env} {R : Room} {s : State} {m : MethodId} {args : Array Value} {below : List Frame} {meth : Method} {c : Code} {H H0 : Heap} {locs : List Loc} {cells slots : Nat} {Q : State → Prop}
variable {pc : Nat} {ls : Array Slot} {rest st0 : List Value} {A : Nat → Prop} {D : va_G} {cl : List vw_C} {tys : List (ClassId × FieldType)} {W0 wc wr : va_W} {av : List Value} {a : Array Value} {mc ms : Nat}
/-- the callee's start, out of the caller's world -/
theorem zPre.at (hK : va_K D cl tys s) (hP : va_P D cl W0 H) (hD : va_D A W0) (hS : va_S A s.heap H locs) (hA : ∀ q, s.heap.size ≤ q → A q) (hX : stF A s s.heap) (isC : List Nat) (hn : va_nd isC = true) (hC : isC.map (fun i => W0[i]?) = wc.map some) : ∀ U : State, U.heap = H → s.WarmedH U.vm → va_Pc av (zPre D cl tys wc H.size) av.toArray U := by
  intro U hU hW
  have hF := va_free hD hS hA isC hC
  have hDc := (hD.sub (ws' := wc) isC hn hC).weaken (B := fun _ => True) (fun _ _ _ _ => trivial)
  have hPc : va_P D cl wc H := by
    intro k q hk
    have h1 : (wc.map some)[k]? = some (some q) := by simp [hk]
    rw [← hC] at h1
    obtain ⟨i, hi, h2⟩ : ∃ i, isC[k]? = some i ∧ W0[i]? = some q := by
      rw [List.getElem?_map] at h1
      cases h3 : isC[k]? with
      | none => rw [h3] at h1; cases h1
      | some i => rw [h3] at h1; exact ⟨i, rfl, Option.some.inj h1⟩
    exact hP i q h2
  refine ⟨rfl, by rw [hU], by rw [hU]; exact hPc, va_K.moved hW.alike hK, hDc, ?_⟩
  rw [hU]
  exact ((hX.kept (H1 := H) (fun q h1 h2 => hS.2.1 q h1 h2)).narrow hF).warm hW
theorem zRd.at (hK : va_K D cl tys s) (hPc : va_P D cl wc H) (hX : stF (fun _ => False) s H) : ∀ U : State, U.heap = H → s.WarmedH U.vm → va_Pc av (zRd D cl tys wc) av.toArray U := by
  intro U hU hW
  exact ⟨rfl, by rw [hU]; exact hPc, va_K.moved hW.alike hK, by rw [hU]; exact hX.warm hW⟩
theorem stF.now (hX : stF A s s.heap) (hS : va_S A s.heap H locs) : stF (fun _ => False) s H := (hX.kept (H1 := H) (fun q h1 h2 => hS.2.1 q h1 h2)).narrow (fun _ h => h.elim)
/-- behind a call that gives an int -/
theorem zI.back {S : Type} {post : Int → S → Prop} {w1 : S → va_W} (hr : va_Run p l e R s m args below meth c H locs cells slots mc ms (F0 m pc ls st0) rest (va_Qi (fun r u => ∃ z : Int, r = iI z ∧ post z u) (zPost D cl tys (va_A wc H.size) w1) (va_A wc H.size) a) (va_A wc H.size))
    (hP : va_P D cl W0 H) (hD : va_D A W0) (hS : va_S A H0 H locs) (hA : ∀ q, H0.size ≤ q → A q) (isC isR : List Nat) (hC : isC.map (fun i => W0[i]?) = wc.map some) (hR : isR.map (fun i => W0[i]?) = wr.map some) (hn : va_nd isR = true) (hdis : ∀ i ∈ isR, i ∉ isC)
    (kk : ∀ (z : Int) (u : S) (H1 : Heap) (locs1 : List Loc), post z u → va_P D cl (wr ++ w1 u) H1 → va_D A (wr ++ w1 u) → va_S A H0 H1 locs1 → H.size ≤ H1.size → (∀ q : Nat, q < H.size → ¬ va_A wc H.size q → H1[q]? = H[q]?) → W p l e R s m args below meth c H1 locs1 (cells + mc) (slots + ms) Q (F0 m (pc + 3) ls (.int (iI z) :: rest))) : W p l e R s m args below meth c H locs cells slots Q (F0 m pc ls st0) := by
  have hF := va_free hD hS hA isC hC
  refine va_calli hr hS (fun q _ h => hF q h) hF (fun r u t H1 locs1 ht hvm hw hB hz1 hk1 hS1 => ?_)
  obtain ⟨z, rfl, hp⟩ := hw
  obtain ⟨hP1, hD1⟩ := hB
  rw [ht] at hP1
  obtain ⟨hP2, hD2⟩ := va_join hP hD isC isR hC hR hn hdis hk1 hF hP1 hD1
  exact kk z u H1 locs1 hp hP2 hD2 hS1 hz1 hk1
theorem zV.back {S : Type} {post : S → Prop} {w1 : S → va_W} (hr : va_Run p l e R s m args below meth c H locs cells slots mc ms (F0 m pc ls st0) rest (va_Qv post (zPost D cl tys (va_A wc H.size) w1) (va_A wc H.size) a) (va_A wc H.size))
    (hP : va_P D cl W0 H) (hD : va_D A W0) (hS : va_S A H0 H locs) (hA : ∀ q, H0.size ≤ q → A q) (isC isR : List Nat) (hC : isC.map (fun i => W0[i]?) = wc.map some) (hR : isR.map (fun i => W0[i]?) = wr.map some) (hn : va_nd isR = true) (hdis : ∀ i ∈ isR, i ∉ isC)
    (kk : ∀ (u : S) (H1 : Heap) (locs1 : List Loc), post u → va_P D cl (wr ++ w1 u) H1 → va_D A (wr ++ w1 u) → va_S A H0 H1 locs1 → H.size ≤ H1.size → (∀ q : Nat, q < H.size → ¬ va_A wc H.size q → H1[q]? = H[q]?) → W p l e R s m args below meth c H1 locs1 (cells + mc) (slots + ms) Q (F0 m (pc + 3) ls rest)) : W p l e R s m args below meth c H locs cells slots Q (F0 m pc ls st0) := by
  have hF := va_free hD hS hA isC hC
  refine va_callv hr hS (fun q _ h => hF q h) hF (fun u t H1 locs1 ht hvm hw hB hz1 hk1 hS1 => ?_)
  obtain ⟨hP1, hD1⟩ := hB
  rw [ht] at hP1
  obtain ⟨hP2, hD2⟩ := va_join hP hD isC isR hC hR hn hdis hk1 hF hP1 hD1
  exact kk u H1 locs1 hw hP2 hD2 hS1 hz1 hk1
theorem zQ.back {S : Type} {post : Option Nat → S → Prop} {w1 : S → va_W} (hr : va_Run p l e R s m args below meth c H locs cells slots mc ms (F0 m pc ls st0) rest (va_Qq post (zPost D cl tys (va_A wc H.size) w1) (va_A wc H.size) a) (va_A wc H.size))
    (hP : va_P D cl W0 H) (hD : va_D A W0) (hS : va_S A H0 H locs) (hA : ∀ q, H0.size ≤ q → A q) (isC isR : List Nat) (hC : isC.map (fun i => W0[i]?) = wc.map some) (hR : isR.map (fun i => W0[i]?) = wr.map some) (hn : va_nd isR = true) (hdis : ∀ i ∈ isR, i ∉ isC)
    (kk : ∀ (r : Option Nat) (u : S) (H1 : Heap) (locs1 : List Loc), post r u → va_P D cl (wr ++ w1 u) H1 → va_D A (wr ++ w1 u) → va_S A H0 H1 locs1 → H.size ≤ H1.size → (∀ q : Nat, q < H.size → ¬ va_A wc H.size q → H1[q]? = H[q]?) → W p l e R s m args below meth c H1 locs1 (cells + mc) (slots + ms) Q (F0 m (pc + 3) ls (va_rf r :: rest))) : W p l e R s m args below meth c H locs cells slots Q (F0 m pc ls st0) := by
  have hF := va_free hD hS hA isC hC
  refine va_callq hr hS (fun q _ h => hF q h) hF (fun r u t H1 locs1 ht hvm hw hB hz1 hk1 hS1 => ?_)
  obtain ⟨hP1, hD1⟩ := hB
  rw [ht] at hP1
  obtain ⟨hP2, hD2⟩ := va_join hP hD isC isR hC hR hn hdis hk1 hF hP1 hD1
  exact kk r u H1 locs1 hw hP2 hD2 hS1 hz1 hk1
/-- behind a reading call that gives an int -/
theorem zRI.back {post : Int → Prop} (hr : CallRun p l e R s m args below meth c H locs cells slots 0 0 (F0 m pc ls st0) rest (vp_Si (fun r => ∃ z : Int, r = iI z ∧ post z) a) (fun _ => False))
    (kk : ∀ z : Int, post z → W p l e R s m args below meth c H locs cells slots Q (F0 m (pc + 3) ls (.int (iI z) :: rest))) : W p l e R s m args below meth c H locs cells slots Q (F0 m pc ls st0) :=
  vp_callSi hr (fun r h => by obtain ⟨z, rfl, hp⟩ := h; exact kk z hp)
theorem zRQ.back {post : Option Nat → Prop} (hr : CallRun p l e R s m args below meth c H locs cells slots 0 0 (F0 m pc ls st0) rest (va_Sq post a) (fun _ => False))
    (kk : ∀ r : Option Nat, post r → W p l e R s m args below meth c H locs cells slots Q (F0 m (pc + 3) ls (va_rf r :: rest))) : W p l e R s m args below meth c H locs cells slots Q (F0 m pc ls st0) := va_csq hr kk
end ZCALL
end
section
/-! Worlds as bags of cells: any order, a part and the rest. -/
theorem zP_iff {D : va_G} {cl : List vw_C} {ws : va_W} {H : Heap} : va_P D cl ws H ↔ ∀ q ∈ ws, va_at D cl q H := by
  constructor
  · intro h q hq
    obtain ⟨k, hk⟩ := List.getElem?_of_mem hq
    exact h k q hk
  · intro h k q hk
    exact h q (List.mem_of_getElem? hk)
theorem zP_mem {D : va_G} {cl : List vw_C} {ws ws' : va_W} {H : Heap} (h : va_P D cl ws H) (hs : ∀ q ∈ ws', q ∈ ws) : va_P D cl ws' H := zP_iff.mpr fun q hq => zP_iff.mp h q (hs q hq)
theorem zD_iff {A : Nat → Prop} {ws : va_W} : va_D A ws ↔ (ws.map (fun q => q.1)).Nodup ∧ ∀ q ∈ ws, A q.1 := by
  constructor
  · rintro ⟨h1, h2⟩
    refine ⟨?_, fun q hq => ?_⟩
    · rw [List.nodup_iff_pairwise_ne, List.pairwise_iff_getElem]
      intro i j hi hj hij hE
      rw [List.length_map] at hi hj
      rw [List.getElem_map, List.getElem_map] at hE
      have := h1 i j _ _ (List.getElem?_eq_getElem hi) (List.getElem?_eq_getElem hj) hE
      omega
    · obtain ⟨k, hk⟩ := List.getElem?_of_mem hq
      exact h2 k q hk
  · rintro ⟨h1, h2⟩
    refine ⟨fun i j p q hi hj hE => ?_, fun k q hk => h2 q (List.mem_of_getElem? hk)⟩
    rw [List.nodup_iff_pairwise_ne, List.pairwise_iff_getElem] at h1
    obtain ⟨li, ei⟩ := List.getElem?_eq_some_iff.mp hi
    obtain ⟨lj, ej⟩ := List.getElem?_eq_some_iff.mp hj
    rcases Nat.lt_trichotomy i j with h | h | h
    · refine absurd ?_ (h1 i j (by rw [List.length_map]; exact li) (by rw [List.length_map]; exact lj) h)
      rw [List.getElem_map, List.getElem_map, ei, ej, hE]
    · exact h
    · refine absurd ?_ (h1 j i (by rw [List.length_map]; exact lj) (by rw [List.length_map]; exact li) h)
      rw [List.getElem_map, List.getElem_map, ei, ej, hE]
theorem zD_perm {A : Nat → Prop} {ws ws' : va_W} (hp : ws.Perm ws') (h : va_D A ws) : va_D A ws' := by
  rw [zD_iff] at h ⊢
  exact ⟨((hp.map _).nodup_iff).mp h.1, fun q hq => h.2 q (hp.mem_iff.mpr hq)⟩
theorem zP_perm {D : va_G} {cl : List vw_C} {ws ws' : va_W} {H : Heap} (hp : ws.Perm ws') (h : va_P D cl ws H) : va_P D cl ws' H := zP_mem h fun q hq => hp.mem_iff.mpr hq
theorem zA_iff {ws : va_W} {sz q : Nat} : va_A ws sz q ↔ q ∈ ws.map (fun c => c.1) ∨ sz ≤ q := by
  constructor
  · rintro (⟨k, e, h⟩ | h)
    · exact Or.inl (List.mem_map.mpr ⟨(q, e), List.mem_of_getElem? h, rfl⟩)
    · exact Or.inr h
  · rintro (h | h)
    · obtain ⟨⟨a, e⟩, h1, rfl⟩ := List.mem_map.mp h
      obtain ⟨k, hk⟩ := List.getElem?_of_mem h1
      exact Or.inl ⟨k, e, hk⟩
    · exact Or.inr h
theorem zA_perm {ws ws' : va_W} (hp : ws.Perm ws') (sz : Nat) : va_A ws sz = va_A ws' sz := by
  funext q
  exact propext (by rw [zA_iff, zA_iff, (hp.map _).mem_iff])
/-- the part becomes w1, the rest stays -/
theorem zframe {A : Nat → Prop} {D : va_G} {cl : List vw_C} {wc wr w1 : va_W} {H H1 : Heap} (hP : va_P D cl (wc ++ wr) H) (hD : va_D A (wc ++ wr)) (hk : ∀ q : Nat, q < H.size → ¬ va_A wc H.size q → H1[q]? = H[q]?) (hF : ∀ q, va_A wc H.size q → A q) (hP1 : va_P D cl w1 H1) (hD1 : va_D (va_A wc H.size) w1) : va_P D cl (w1 ++ wr) H1 ∧ va_D A (w1 ++ wr) := by
  rw [zP_iff] at hP hP1
  rw [zD_iff] at hD hD1
  have hno : ∀ q ∈ wr, ¬ va_A wc H.size q.1 := by
    intro q hq hA
    rw [zA_iff] at hA
    rcases hA with h | h
    · rw [List.map_append, List.nodup_append] at hD
      exact hD.1.2.2 _ h _ (List.mem_map.mpr ⟨q, hq, rfl⟩) rfl
    · have := (hP q (List.mem_append_right _ hq)).lt
      omega
  constructor
  · rw [zP_iff]
    intro q hq
    rcases List.mem_append.mp hq with h | h
    · exact hP1 q h
    · exact (hP q (List.mem_append_right _ h)).kept (hk q.1 (hP q (List.mem_append_right _ h)).lt (hno q h))
  · rw [zD_iff]
    refine ⟨?_, fun q hq => ?_⟩
    · rw [List.map_append, List.nodup_append] at hD ⊢
      refine ⟨hD1.1, hD.1.2.1, ?_⟩
      intro a ha b hb hab
      obtain ⟨x, hx, rfl⟩ := List.mem_map.mp ha
      obtain ⟨y, hy, rfl⟩ := List.mem_map.mp hb
      have h1 := hD1.2 x hx
      rw [hab] at h1
      exact hno y hy h1
    · rcases List.mem_append.mp hq with h | h
      · exact hF _ (hD1.2 q h)
      · exact hD.2 q (List.mem_append_right _ h)
end
section
/-! more rows over integers -/
theorem kcJO_init : Cond.code objectInit ⟨#[0xb1]⟩ 1 none ∈ TW := twm (by decide +kernel) (by decide +kernel)
abbrev zT (cI cG : ClassId) : List (ClassId × FieldType) := [(cI, .int), (cG, .object "GroupHalls$Group")]
theorem iI_ushr1 {s : Int} (h : 0 ≤ s ∧ s < 2147483648) : ((iI s).toUInt32 >>> ((iI 1).toUInt32 &&& Int32.toUInt32 31)).toInt32 = iI (s / 2) := by
  obtain ⟨n, rfl⟩ := Int.eq_ofNat_of_zero_le h.1
  have e := pk_ushrN (n := n) (by omega) (iI 1) 1 (by decide)
  rw [iI_nI, iI_nI] at e
  rw [e]
  congr 1
section LZ2
variable {p : Program} {l : Launch} {e : Env} {R : Room} {s : State} {m : MethodId} {args : Array Value} {below : List Frame} {meth : Method} {c : Code} {H : Heap} {locs : List Loc} {cells slots : Nat} {Q : State → Prop}
variable {cc : ByteArray} {pc : Nat} {ls : Array Slot} {rest : List Value} {A : Nat → Prop}
theorem lz_ldc (hexec : p.tables.exec = Jvm.exec) (hb : c.code = cc) {own : String} {index : Nat} {v : Int32} {z : Int} (hown : s.vm.findClass own = some m.cls) (hconst : (Jvm.Cond.constant own index v).before args s = true) (hv : v = iI z) (hdg : decode cc pc = .ok (.ldc index, 2)) (k : W p l e R s m args below meth c H locs cells slots Q (F0 m (pc + 2) ls (.int (iI z) :: rest))) : W p l e R s m args below meth c H locs cells slots Q (F0 m pc ls rest) := by
  subst hv
  exact lv_ldc hexec hb hown hconst hdg k
theorem lz_max (hexec : p.tables.exec = Jvm.exec) (hb : c.code = cc) (hml : c.maxLocals = ls.size) {own : String} {index : Nat} (hown : s.vm.findClass own = some m.cls) (hlink : (Cond.methodLink own index Lib.Math.max.name).before args s = true) (hstat : (Cond.static Lib.Math.max.name).before args s = true) (hini : (Cond.initialized "java/lang/Math").before args s = true) (hcode : (Cond.code Lib.Math.max.name Lib.Math.max.code 2 (some .int)).before args s = true)
    (hframes : 1 ≤ R.frames) (hlocals : (rest.map fun v => v.category).sum + 13 ≤ R.locals) (hc : cells ≤ R.cells) (hs : slots ≤ R.slots) {x y z : Int} (hx : -2147483648 ≤ x ∧ x < 2147483648) (hy : -2147483648 ≤ y ∧ y < 2147483648) (hz : (if x < y then y else x) = z) (hdg : decode cc pc = .ok (.invokestatic index, 3))
    (kk : W p l e R s m args below meth c H locs cells slots Q (F0 m (pc + 3) ls (.int (iI z) :: rest))) : W p l e R s m args below meth c H locs cells slots Q (F0 m pc ls (.int (iI y) :: .int (iI x) :: rest)) := by
  refine va_mmax hexec hb hml hown hlink hstat hini hcode hframes hlocals hc hs hdg ?_
  have e : (if iI x < iI y then iI y else iI x) = iI z := by
    rw [← hz]
    by_cases h : x < y
    · rw [if_pos h, if_pos ((iI_lt hx hy).mpr h)]
    · rw [if_neg h, if_neg (fun q => h ((iI_lt hx hy).mp q))]
  rw [e]
  exact kk
/-- a static table of ints is read -/
theorem lz_tab (hexec : p.tables.exec = Jvm.exec) (hb : c.code = cc) {t N : Nat} {xs : List Int} (hT : va_T .int t N (stT xs) A s s.heap) (hS : va_S A s.heap H locs) {z : Int} (hz : (0 ≤ z ∧ z < (N : Int)) ∧ z < 2147483648) (hdg : decode cc pc = .ok (.iaload, 1))
    (kk : W p l e R s m args below meth c H locs cells slots Q (F0 m (pc + 1) ls (.int (iI (xs.getD z.toNat 0)) :: rest))) : W p l e R s m args below meth c H locs cells slots Q (F0 m pc ls (.int (iI z) :: .ref t :: rest)) := by
  refine va_ti hexec hb hT hS (vp_in_iI hz.1 hz.2) (v := .int (iI (xs.getD z.toNat 0))) ?_ hdg kk
  rw [iI_clamp ⟨hz.1.1, hz.2⟩]
  rfl
variable {D : va_G} {cl : List vw_C} {a : Nat} {tys : List (ClassId × FieldType)} {ws : va_W} {H0 : Heap}
theorem zf_cpy (f g : Nat → Int) (a b n : Nat) : va_cpy (zf f) (zf g) a b n = zf (va_cpy f g a b n) := by
  funext j
  by_cases h : b ≤ j ∧ j < b + n
  · simp only [va_cpy, zf, if_pos h]
  · simp only [va_cpy, zf, if_neg h]
theorem lz_copy {cc : ByteArray} (hexec : p.tables.exec = Jvm.exec) (hb : c.code = cc) (hml : c.maxLocals = ls.size) {own : String} {index : Nat} (hown : s.vm.findClass own = some m.cls) (hlink : (Cond.methodLink own index arraycopyName).before args s = true) (hnat : (Cond.native arraycopyName).before args s = true) (hstat : (Cond.static arraycopyName).before args s = true) (hini : (Cond.initialized "java/lang/System").before args s = true)
    (hK : va_K D cl tys s) (hP : va_P D cl ws H) (hD : va_D A ws) (hS : va_S A H0 H locs) (q0 t0 : Nat) {c0 : ClassId} {n0 : Nat} {f : Nat → Int} (ha0 : ws[q0]? = some (a, .inl (c0, n0, .inl (zf f)))) (ht0 : tys[t0]? = some (c0, .int))
    {sp dp n : Int} (h1 : 0 ≤ sp) (h2 : 0 ≤ dp) (h3 : 0 ≤ n) (h4 : sp + n ≤ n0) (h5 : dp + n ≤ n0) (h6 : n0 ≤ 100000)
    (hframes : 1 ≤ R.frames) (hlocals : (rest.map fun v => v.category).sum + (nativeFrameWords "java/lang/System" "arraycopy" 5 + 11) ≤ R.locals) (hdg : decode cc pc = .ok (.invokestatic index, 3))
    (kk : ∀ (H1 : Heap) (locs1 : List Loc), va_P D cl (ws.set q0 (a, .inl (c0, n0, .inl (zf (va_cpy f f sp.toNat dp.toNat n.toNat))))) H1 → va_D A (ws.set q0 (a, .inl (c0, n0, .inl (zf (va_cpy f f sp.toNat dp.toNat n.toNat))))) → va_S A H0 H1 locs1 → W p l e R s m args below meth c H1 locs1 cells slots Q (F0 m (pc + 3) ls rest)) : W p l e R s m args below meth c H locs cells slots Q (F0 m pc ls (.int (iI n) :: .int (iI dp) :: .ref a :: .int (iI sp) :: .ref a :: rest)) := by
  have nn : ∀ z : Int, 0 ≤ z → z ≤ 100000 → ¬ iI z < 0 := fun z a b q => by
    rw [← iI_0, iI_lt (by omega) (by omega)] at q
    omega
  have cs : (iI sp).toNatClampNeg = sp.toNat := iI_clamp (by omega)
  have cd : (iI dp).toNatClampNeg = dp.toNat := iI_clamp (by omega)
  have cn : (iI n).toNatClampNeg = n.toNat := iI_clamp (by omega)
  refine va_copyi hexec hb hml hown hlink hnat hstat hini hK hP hD hS q0 q0 t0 t0 (ty := .int) ha0 ha0 ht0 ht0 rfl (nn sp h1 (by omega)) (nn dp h2 (by omega)) (nn n h3 (by omega)) (by rw [cs, cn]; omega) (by rw [cd, cn]; omega) (fun i _ => rfl) hframes hlocals hdg ?_
  rw [cs, cd, cn, zf_cpy]
  exact kk
theorem lz_ialk (hexec : p.tables.exec = Jvm.exec) (hb : c.code = cc) (hK : va_K D cl tys s) (hP : va_P D cl ws H) (q0 t0 : Nat) {cA : ClassId} {n : Nat} {f : Nat → Int} (ha : ws[q0]? = some (a, .inl (cA, n, .inl (zf f)))) (ht : tys[t0]? = some (cA, .int)) {z : Int} (k : Nat) (hz : z = (k : Int)) (hk : k < n ∧ k < 2147483648) (hdg : decode cc pc = .ok (.iaload, 1))
    (kk : W p l e R s m args below meth c H locs cells slots Q (F0 m (pc + 1) ls (.int (iI (f k)) :: rest))) : W p l e R s m args below meth c H locs cells slots Q (F0 m pc ls (.int (iI z) :: .ref a :: rest)) := by
  subst hz
  exact lz_iald hexec hb hK hP q0 t0 ha ht (by omega) hdg kk
theorem lz_iask (hexec : p.tables.exec = Jvm.exec) (hb : c.code = cc) (hK : va_K D cl tys s) (hP : va_P D cl ws H) (hD : va_D A ws) (hS : va_S A H0 H locs) (q0 t0 : Nat) {cA : ClassId} {n : Nat} {f : Nat → Int} (ha : ws[q0]? = some (a, .inl (cA, n, .inl (zf f)))) (ht : tys[t0]? = some (cA, .int)) {z v : Int} (k : Nat) (hz : z = (k : Int)) (hk : k < n ∧ k < 2147483648) (hdg : decode cc pc = .ok (.iastore, 1))
    (kk : ∀ (H1 : Heap) (locs1 : List Loc), va_P D cl (ws.set q0 (a, .inl (cA, n, .inl (zf (zu f k v))))) H1 → va_D A (ws.set q0 (a, .inl (cA, n, .inl (zf (zu f k v))))) → va_S A H0 H1 locs1 → W p l e R s m args below meth c H1 locs1 cells slots Q (F0 m (pc + 1) ls rest)) : W p l e R s m args below meth c H locs cells slots Q (F0 m pc ls (.int (iI v) :: .int (iI z) :: .ref a :: rest)) := by
  subst hz
  exact lz_iast hexec hb hK hP hD hS q0 t0 ha ht (by omega) hdg kk
theorem lz_tlen (hexec : p.tables.exec = Jvm.exec) (hb : c.code = cc) {t N : Nat} {f : Nat → Value} {ty : FieldType} (hT : va_T ty t N f A s s.heap) (hS : va_S A s.heap H locs) (hdg : decode cc pc = .ok (.arraylength, 1))
    (kk : W p l e R s m args below meth c H locs cells slots Q (F0 m (pc + 1) ls (.int (iI (N : Int)) :: rest))) : W p l e R s m args below meth c H locs cells slots Q (F0 m pc ls (.ref t :: rest)) := va_tlen hexec hb hT hS (iI_nI N) hdg kk
end LZ2
end
section
/-! Keys: an OPERATION as one number; what it does to PLACES. -/
def p3 (j : Nat) : Int := ([6561, 2187, 729, 243, 81, 27, 9, 3, 1] : List Int).getD j 1
def mdg (k : Int) (j : Nat) : Int := k / 13824 / p3 j % 3 - 1
theorem mdg_in (k : Int) (j : Nat) : -1 ≤ mdg k j ∧ mdg k j ≤ 1 := by unfold mdg; omega
def detF (g : Nat → Int) : Int := g 0 * (g 4 * g 8 - g 5 * g 7) - g 1 * (g 3 * g 8 - g 5 * g 6) + g 2 * (g 3 * g 7 - g 4 * g 6)
def pX (x : Int) : Int := x / 576
def pY (x : Int) : Int := x / 24 % 24
def pZ (x : Int) : Int := x % 24
def isPl (x : Int) : Prop := 0 ≤ x ∧ x < 13824
def mk3 (a b c : Int) : Int := (a * 24 + b) * 24 + c
def movF (g : Nat → Int) (sh x : Int) : Int :=
  mk3 ((g 0 * pX x + g 1 * pY x + g 2 * pZ x + pX sh + 72) % 24) ((g 3 * pX x + g 4 * pY x + g 5 * pZ x + pY sh + 72) % 24) ((g 6 * pX x + g 7 * pY x + g 8 * pZ x + pZ sh + 72) % 24)
def movK (k x : Int) : Int := movF (mdg k) (k % 13824) x
def kOK (k : Int) : Prop := 0 ≤ k ∧ k < 272097792
def vOK (k : Int) : Prop := kOK k ∧ ∀ x y, isPl x → isPl y → movK k x = movK k y → x = y
theorem pX_mk {a b c : Int} (ha : 0 ≤ a ∧ a < 24) (hb : 0 ≤ b ∧ b < 24) (hc : 0 ≤ c ∧ c < 24) : pX (mk3 a b c) = a ∧ pY (mk3 a b c) = b ∧ pZ (mk3 a b c) = c ∧ isPl (mk3 a b c) := by
  unfold pX pY pZ mk3 isPl; omega
theorem mk3_p {x : Int} (h : isPl x) : mk3 (pX x) (pY x) (pZ x) = x ∧ (0 ≤ pX x ∧ pX x < 24) ∧ (0 ≤ pY x ∧ pY x < 24) ∧ (0 ≤ pZ x ∧ pZ x < 24) := by
  unfold pX pY pZ mk3 isPl at *; omega
theorem movF_at (g : Nat → Int) (sh x : Int) : pX (movF g sh x) = (g 0 * pX x + g 1 * pY x + g 2 * pZ x + pX sh + 72) % 24 ∧ pY (movF g sh x) = (g 3 * pX x + g 4 * pY x + g 5 * pZ x + pY sh + 72) % 24 ∧ pZ (movF g sh x) = (g 6 * pX x + g 7 * pY x + g 8 * pZ x + pZ sh + 72) % 24 ∧ isPl (movF g sh x) :=
  pX_mk (by omega) (by omega) (by omega)
theorem movK_pl (k x : Int) : isPl (movK k x) := (movF_at _ _ _).2.2.2
def prodD (p q : Int) (t : Nat) : Int := mdg p (t / 3 * 3) * mdg q (t % 3) + mdg p (t / 3 * 3 + 1) * mdg q (t % 3 + 3) + mdg p (t / 3 * 3 + 2) * mdg q (t % 3 + 6)
def nineP (p q : Int) : Nat → Int
  | 0 => 0
  | t + 1 => nineP p q t * 3 + prodD p q t + 1
def prodIn (p q : Int) (n : Nat) : Prop := ∀ t, t < n → -1 ≤ prodD p q t ∧ prodD p q t ≤ 1
def timesK (p q : Int) : Int := if (∀ t, t < 9 → -1 ≤ prodD p q t ∧ prodD p q t ≤ 1) then nineP p q 9 * 13824 + movF (mdg p) (p % 13824) (q % 13824) else -1
theorem nine_digits {d0 d1 d2 d3 d4 d5 d6 d7 d8 sh : Int} (h0 : 0 ≤ d0 ∧ d0 < 3) (h1 : 0 ≤ d1 ∧ d1 < 3) (h2 : 0 ≤ d2 ∧ d2 < 3) (h3 : 0 ≤ d3 ∧ d3 < 3) (h4 : 0 ≤ d4 ∧ d4 < 3) (h5 : 0 ≤ d5 ∧ d5 < 3) (h6 : 0 ≤ d6 ∧ d6 < 3) (h7 : 0 ≤ d7 ∧ d7 < 3) (h8 : 0 ≤ d8 ∧ d8 < 3) (hs : 0 ≤ sh ∧ sh < 13824) :
    ∀ n, n = ((((((((d0 * 3 + d1) * 3 + d2) * 3 + d3) * 3 + d4) * 3 + d5) * 3 + d6) * 3 + d7) * 3 + d8) → (n * 13824 + sh) / 13824 = n ∧ (n * 13824 + sh) % 13824 = sh ∧ 0 ≤ n ∧ n < 19683 ∧ n / 6561 % 3 = d0 ∧ n / 2187 % 3 = d1 ∧ n / 729 % 3 = d2 ∧ n / 243 % 3 = d3 ∧ n / 81 % 3 = d4 ∧ n / 27 % 3 = d5 ∧ n / 9 % 3 = d6 ∧ n / 3 % 3 = d7 ∧ n / 1 % 3 = d8 := by
  intro n hn
  refine ⟨by omega, by omega, by omega, by omega, by omega, by omega, by omega, by omega, by omega, by omega, by omega, by omega, by omega⟩
/-- what a product's digits and SHIFT are -/
theorem times_in {p q : Int} (hin : ∀ t, t < 9 → -1 ≤ prodD p q t ∧ prodD p q t ≤ 1) : kOK (timesK p q) ∧ (∀ j, j < 9 → mdg (timesK p q) j = prodD p q j) ∧ timesK p q % 13824 = movF (mdg p) (p % 13824) (q % 13824) := by
  unfold timesK
  rw [if_pos hin]
  have hs := (movF_at (mdg p) (p % 13824) (q % 13824)).2.2.2
  generalize movF (mdg p) (p % 13824) (q % 13824) = sh at hs ⊢
  have e : nineP p q 9 = ((((((((0 * 3 + prodD p q 0 + 1) * 3 + prodD p q 1 + 1) * 3 + prodD p q 2 + 1) * 3 + prodD p q 3 + 1) * 3 + prodD p q 4 + 1) * 3 + prodD p q 5 + 1) * 3 + prodD p q 6 + 1) * 3 + prodD p q 7 + 1) * 3 + prodD p q 8 + 1 := rfl
  have b0 := hin 0 (by omega)
  have b1 := hin 1 (by omega)
  have b2 := hin 2 (by omega)
  have b3 := hin 3 (by omega)
  have b4 := hin 4 (by omega)
  have b5 := hin 5 (by omega)
  have b6 := hin 6 (by omega)
  have b7 := hin 7 (by omega)
  have b8 := hin 8 (by omega)
  unfold isPl at hs
  obtain ⟨g1, g2, g3, g4, k0, k1, k2, k3, k4, k5, k6, k7, k8⟩ := nine_digits (d0 := prodD p q 0 + 1) (d1 := prodD p q 1 + 1) (d2 := prodD p q 2 + 1) (d3 := prodD p q 3 + 1) (d4 := prodD p q 4 + 1) (d5 := prodD p q 5 + 1) (d6 := prodD p q 6 + 1) (d7 := prodD p q 7 + 1) (d8 := prodD p q 8 + 1) (sh := sh) (by omega) (by omega) (by omega) (by omega) (by omega) (by omega) (by omega) (by omega) (by omega) hs (nineP p q 9) (by rw [e]; omega)
  refine ⟨by unfold kOK; omega, ?_, g2⟩
  intro j hj
  unfold mdg
  rw [g1]
  rcases (show j = 0 ∨ j = 1 ∨ j = 2 ∨ j = 3 ∨ j = 4 ∨ j = 5 ∨ j = 6 ∨ j = 7 ∨ j = 8 by omega) with rfl | rfl | rfl | rfl | rfl | rfl | rfl | rfl | rfl <;> simp only [p3, List.getD_cons_zero, List.getD_cons_succ] <;> omega
theorem times_ne {p q : Int} : timesK p q ≠ -1 ↔ ∀ t, t < 9 → -1 ≤ prodD p q t ∧ prodD p q t ≤ 1 := by
  constructor
  · intro h
    by_cases hin : ∀ t, t < 9 → -1 ≤ prodD p q t ∧ prodD p q t ≤ 1
    · exact hin
    · unfold timesK at h
      rw [if_neg hin] at h
      exact absurd rfl h
  · intro h
    have := (times_in h).1.1
    omega
theorem times_digits {p q : Int} (h : timesK p q ≠ -1) : kOK (timesK p q) ∧ (∀ j, j < 9 → mdg (timesK p q) j = prodD p q j) ∧ timesK p q % 13824 = movF (mdg p) (p % 13824) (q % 13824) := times_in (times_ne.mp h)
theorem emod24 {a b : Int} (c : Int) (h : a - b = 24 * c) : a % 24 = b % 24 := by omega
theorem mod_comp (a0 a1 a2 b0 b1 b2 b3 b4 b5 b6 b7 b8 X Y Z s1 s2 s3 t : Int) : ((a0 * b0 + a1 * b3 + a2 * b6) * X + (a0 * b1 + a1 * b4 + a2 * b7) * Y + (a0 * b2 + a1 * b5 + a2 * b8) * Z + (a0 * s1 + a1 * s2 + a2 * s3 + t + 72) % 24 + 72) % 24 = (a0 * ((b0 * X + b1 * Y + b2 * Z + s1 + 72) % 24) + a1 * ((b3 * X + b4 * Y + b5 * Z + s2 + 72) % 24) + a2 * ((b6 * X + b7 * Y + b8 * Z + s3 + 72) % 24) + t + 72) % 24 := by
  obtain ⟨k0, h0⟩ : ∃ k, (a0 * s1 + a1 * s2 + a2 * s3 + t + 72) % 24 = (a0 * s1 + a1 * s2 + a2 * s3 + t + 72) - 24 * k := ⟨_, Int.emod_def _ _⟩
  obtain ⟨k1, h1⟩ : ∃ k, (b0 * X + b1 * Y + b2 * Z + s1 + 72) % 24 = (b0 * X + b1 * Y + b2 * Z + s1 + 72) - 24 * k := ⟨_, Int.emod_def _ _⟩
  obtain ⟨k2, h2⟩ : ∃ k, (b3 * X + b4 * Y + b5 * Z + s2 + 72) % 24 = (b3 * X + b4 * Y + b5 * Z + s2 + 72) - 24 * k := ⟨_, Int.emod_def _ _⟩
  obtain ⟨k3, h3⟩ : ∃ k, (b6 * X + b7 * Y + b8 * Z + s3 + 72) % 24 = (b6 * X + b7 * Y + b8 * Z + s3 + 72) - 24 * k := ⟨_, Int.emod_def _ _⟩
  rw [h0, h1, h2, h3]
  exact emod24 (3 - k0 - 3 * (a0 + a1 + a2) + (a0 * k1 + a1 * k2 + a2 * k3)) (by grind)
/-- the product does both, one behind the other -/
theorem times_act {p q : Int} (x : Int) (h : timesK p q ≠ -1) : movK (timesK p q) x = movK p (movK q x) := by
  obtain ⟨-, hd, hs⟩ := times_digits h
  obtain ⟨s1, s2, s3, -⟩ := movF_at (mdg p) (p % 13824) (q % 13824)
  obtain ⟨y1, y2, y3, -⟩ := movF_at (mdg q) (q % 13824) x
  have e0 : mdg (timesK p q) 0 = mdg p 0 * mdg q 0 + mdg p 1 * mdg q 3 + mdg p 2 * mdg q 6 := hd 0 (by omega)
  have e1 : mdg (timesK p q) 1 = mdg p 0 * mdg q 1 + mdg p 1 * mdg q 4 + mdg p 2 * mdg q 7 := hd 1 (by omega)
  have e2 : mdg (timesK p q) 2 = mdg p 0 * mdg q 2 + mdg p 1 * mdg q 5 + mdg p 2 * mdg q 8 := hd 2 (by omega)
  have e3 : mdg (timesK p q) 3 = mdg p 3 * mdg q 0 + mdg p 4 * mdg q 3 + mdg p 5 * mdg q 6 := hd 3 (by omega)
  have e4 : mdg (timesK p q) 4 = mdg p 3 * mdg q 1 + mdg p 4 * mdg q 4 + mdg p 5 * mdg q 7 := hd 4 (by omega)
  have e5 : mdg (timesK p q) 5 = mdg p 3 * mdg q 2 + mdg p 4 * mdg q 5 + mdg p 5 * mdg q 8 := hd 5 (by omega)
  have e6 : mdg (timesK p q) 6 = mdg p 6 * mdg q 0 + mdg p 7 * mdg q 3 + mdg p 8 * mdg q 6 := hd 6 (by omega)
  have e7 : mdg (timesK p q) 7 = mdg p 6 * mdg q 1 + mdg p 7 * mdg q 4 + mdg p 8 * mdg q 7 := hd 7 (by omega)
  have e8 : mdg (timesK p q) 8 = mdg p 6 * mdg q 2 + mdg p 7 * mdg q 5 + mdg p 8 * mdg q 8 := hd 8 (by omega)
  have g1 : movK (timesK p q) x = movF (mdg (timesK p q)) (movF (mdg p) (p % 13824) (q % 13824)) x := by rw [← hs]; rfl
  have g2 : movK p (movK q x) = movF (mdg p) (p % 13824) (movF (mdg q) (q % 13824) x) := rfl
  rw [g1, g2]
  rw [movF.eq_def (mdg (timesK p q)), movF.eq_def (mdg p) _ (movF (mdg q) (q % 13824) x)]
  rw [s1, s2, s3, y1, y2, y3, e0, e1, e2, e3, e4, e5, e6, e7, e8]
  rw [mod_comp, mod_comp, mod_comp]
theorem key_ext {p q : Int} (hp : kOK p) (hq : kOK q) (hd : ∀ j, j < 9 → mdg p j = mdg q j) (hs : p % 13824 = q % 13824) : p = q := by
  have e0 : p / 13824 / 6561 % 3 - 1 = q / 13824 / 6561 % 3 - 1 := hd 0 (by omega)
  have e1 : p / 13824 / 2187 % 3 - 1 = q / 13824 / 2187 % 3 - 1 := hd 1 (by omega)
  have e2 : p / 13824 / 729 % 3 - 1 = q / 13824 / 729 % 3 - 1 := hd 2 (by omega)
  have e3 : p / 13824 / 243 % 3 - 1 = q / 13824 / 243 % 3 - 1 := hd 3 (by omega)
  have e4 : p / 13824 / 81 % 3 - 1 = q / 13824 / 81 % 3 - 1 := hd 4 (by omega)
  have e5 : p / 13824 / 27 % 3 - 1 = q / 13824 / 27 % 3 - 1 := hd 5 (by omega)
  have e6 : p / 13824 / 9 % 3 - 1 = q / 13824 / 9 % 3 - 1 := hd 6 (by omega)
  have e7 : p / 13824 / 3 % 3 - 1 = q / 13824 / 3 % 3 - 1 := hd 7 (by omega)
  have e8 : p / 13824 / 1 % 3 - 1 = q / 13824 / 1 % 3 - 1 := hd 8 (by omega)
  obtain ⟨hp0, hp1⟩ := hp
  obtain ⟨hq0, hq1⟩ := hq
  have hn : 0 ≤ p / 13824 ∧ p / 13824 < 19683 := by omega
  have hm : 0 ≤ q / 13824 ∧ q / 13824 < 19683 := by omega
  have hpn : p = p / 13824 * 13824 + p % 13824 := by omega
  have hqm : q = q / 13824 * 13824 + q % 13824 := by omega
  rw [hpn, hqm, hs]
  clear hpn hqm hs hp0 hp1 hq0 hq1 hd
  generalize p / 13824 = n at *
  generalize q / 13824 = m at *
  have f0 : n / 6561 = m / 6561 := by omega
  have f1 : n / 2187 = m / 2187 := by clear e2 e3 e4 e5 e6 e7 e8; omega
  have f2 : n / 729 = m / 729 := by clear f0 e0 e1 e3 e4 e5 e6 e7 e8; omega
  have f3 : n / 243 = m / 243 := by clear f0 f1 e0 e1 e2 e4 e5 e6 e7 e8; omega
  have f4 : n / 81 = m / 81 := by clear f0 f1 f2 e0 e1 e2 e3 e5 e6 e7 e8; omega
  have f5 : n / 27 = m / 27 := by clear f0 f1 f2 f3 e0 e1 e2 e3 e4 e6 e7 e8; omega
  have f6 : n / 9 = m / 9 := by clear f0 f1 f2 f3 f4 e0 e1 e2 e3 e4 e5 e7 e8; omega
  have f7 : n / 3 = m / 3 := by clear f0 f1 f2 f3 f4 f5 e0 e1 e2 e3 e4 e5 e6 e8; omega
  have f8 : n = m := by clear f0 f1 f2 f3 f4 f5 f6 e0 e1 e2 e3 e4 e5 e6 e7; omega
  rw [f8]
/-- what it does tells the key -/
theorem key_act {p q : Int} (hp : kOK p) (hq : kOK q) (h : ∀ x, isPl x → movK p x = movK q x) : p = q := by
  have a0 := h 0 (by unfold isPl; omega)
  have a1 := h 576 (by unfold isPl; omega)
  have a2 := h 24 (by unfold isPl; omega)
  have a3 := h 1 (by unfold isPl; omega)
  have hs : p % 13824 = q % 13824 := by
    have p1 := mk3_p (x := p % 13824) (by unfold isPl; omega)
    have q1 := mk3_p (x := q % 13824) (by unfold isPl; omega)
    have c1 := congrArg pX a0
    have c2 := congrArg pY a0
    have c3 := congrArg pZ a0
    unfold movK at c1 c2 c3
    rw [(movF_at _ _ _).1, (movF_at _ _ _).1] at c1
    rw [(movF_at _ _ _).2.1, (movF_at _ _ _).2.1] at c2
    rw [(movF_at _ _ _).2.2.1, (movF_at _ _ _).2.2.1] at c3
    rw [show pX 0 = 0 from rfl, show pY 0 = 0 from rfl, show pZ 0 = 0 from rfl] at c1 c2 c3
    simp only [Int.mul_zero, Int.zero_add] at c1 c2 c3
    rw [← p1.1, ← q1.1]
    rw [show pX (p % 13824) = pX (q % 13824) by omega, show pY (p % 13824) = pY (q % 13824) by omega, show pZ (p % 13824) = pZ (q % 13824) by omega]
  have col : ∀ (x : Int) (i : Nat), (pX x = 1 ∧ pY x = 0 ∧ pZ x = 0 ∧ i = 0) ∨ (pX x = 0 ∧ pY x = 1 ∧ pZ x = 0 ∧ i = 1) ∨ (pX x = 0 ∧ pY x = 0 ∧ pZ x = 1 ∧ i = 2) → movK p x = movK q x → mdg p i = mdg q i ∧ mdg p (i + 3) = mdg q (i + 3) ∧ mdg p (i + 6) = mdg q (i + 6) := by
    intro x i hx ha
    have c1 := congrArg pX ha
    have c2 := congrArg pY ha
    have c3 := congrArg pZ ha
    unfold movK at c1 c2 c3
    rw [(movF_at _ _ _).1, (movF_at _ _ _).1, hs] at c1
    rw [(movF_at _ _ _).2.1, (movF_at _ _ _).2.1, hs] at c2
    rw [(movF_at _ _ _).2.2.1, (movF_at _ _ _).2.2.1, hs] at c3
    have b1 := mdg_in p i
    have b2 := mdg_in p (i + 3)
    have b3 := mdg_in p (i + 6)
    have b4 := mdg_in q i
    have b5 := mdg_in q (i + 3)
    have b6 := mdg_in q (i + 6)
    rcases hx with ⟨x1, x2, x3, rfl⟩ | ⟨x1, x2, x3, rfl⟩ | ⟨x1, x2, x3, rfl⟩ <;>
    · rw [x1, x2, x3] at c1 c2 c3
      simp only [Int.mul_zero, Int.mul_one, Int.zero_add, Int.add_zero] at c1 c2 c3
      simp only [Nat.zero_add, Nat.reduceAdd] at b1 b2 b3 b4 b5 b6 ⊢
      refine ⟨?_, ?_, ?_⟩ <;> omega
  obtain ⟨g0, g3, g6⟩ := col 576 0 (by decide) a1
  obtain ⟨g1, g4, g7⟩ := col 24 1 (by decide) a2
  obtain ⟨g2, g5, g8⟩ := col 1 2 (by decide) a3
  refine key_ext hp hq (fun j hj => ?_) hs
  rcases (show j = 0 ∨ j = 1 ∨ j = 2 ∨ j = 3 ∨ j = 4 ∨ j = 5 ∨ j = 6 ∨ j = 7 ∨ j = 8 by omega) with rfl | rfl | rfl | rfl | rfl | rfl | rfl | rfl | rfl <;> assumption
theorem emod24' {a b : Int} (h : a % 24 = b % 24) : ∃ c, a - b = 24 * c := ⟨a / 24 - b / 24, by omega⟩
theorem adj1 (a b c d e f g h i x y z : Int) : (a * (e * i - f * h) - b * (d * i - f * g) + c * (d * h - e * g)) * x = (e * i - f * h) * (a * x + b * y + c * z) + (c * h - b * i) * (d * x + e * y + f * z) + (b * f - c * e) * (g * x + h * y + i * z) := by grind
theorem adj2 (a b c d e f g h i x y z : Int) : (a * (e * i - f * h) - b * (d * i - f * g) + c * (d * h - e * g)) * y = (f * g - d * i) * (a * x + b * y + c * z) + (a * i - c * g) * (d * x + e * y + f * z) + (c * d - a * f) * (g * x + h * y + i * z) := by grind
theorem adj3 (a b c d e f g h i x y z : Int) : (a * (e * i - f * h) - b * (d * i - f * g) + c * (d * h - e * g)) * z = (d * h - e * g) * (a * x + b * y + c * z) + (b * g - a * h) * (d * x + e * y + f * z) + (a * e - b * d) * (g * x + h * y + i * z) := by grind
theorem mul24 (a b c k1 k2 k3 : Int) : a * (24 * k1) + b * (24 * k2) + c * (24 * k3) = 24 * (a * k1 + b * k2 + c * k3) := by grind
/-- determinant 1 or -1: no two PLACES are taken to one -/
theorem det_inj {g : Nat → Int} {sh x y : Int} (hd : detF g = 1 ∨ detF g = -1) (hx : isPl x) (hy : isPl y) (h : movF g sh x = movF g sh y) : x = y := by
  have c1 := congrArg pX h
  have c2 := congrArg pY h
  have c3 := congrArg pZ h
  rw [(movF_at _ _ _).1, (movF_at _ _ _).1] at c1
  rw [(movF_at _ _ _).2.1, (movF_at _ _ _).2.1] at c2
  rw [(movF_at _ _ _).2.2.1, (movF_at _ _ _).2.2.1] at c3
  obtain ⟨k1, h1⟩ := emod24' c1
  obtain ⟨k2, h2⟩ := emod24' c2
  obtain ⟨k3, h3⟩ := emod24' c3
  obtain ⟨ex, x1, x2, x3⟩ := mk3_p hx
  obtain ⟨ey, y1, y2, y3⟩ := mk3_p hy
  have r1 : g 0 * (pX x - pX y) + g 1 * (pY x - pY y) + g 2 * (pZ x - pZ y) = 24 * k1 := by rw [Int.mul_sub, Int.mul_sub, Int.mul_sub]; omega
  have r2 : g 3 * (pX x - pX y) + g 4 * (pY x - pY y) + g 5 * (pZ x - pZ y) = 24 * k2 := by rw [Int.mul_sub, Int.mul_sub, Int.mul_sub]; omega
  have r3 : g 6 * (pX x - pX y) + g 7 * (pY x - pY y) + g 8 * (pZ x - pZ y) = 24 * k3 := by rw [Int.mul_sub, Int.mul_sub, Int.mul_sub]; omega
  have i1 := adj1 (g 0) (g 1) (g 2) (g 3) (g 4) (g 5) (g 6) (g 7) (g 8) (pX x - pX y) (pY x - pY y) (pZ x - pZ y)
  have i2 := adj2 (g 0) (g 1) (g 2) (g 3) (g 4) (g 5) (g 6) (g 7) (g 8) (pX x - pX y) (pY x - pY y) (pZ x - pZ y)
  have i3 := adj3 (g 0) (g 1) (g 2) (g 3) (g 4) (g 5) (g 6) (g 7) (g 8) (pX x - pX y) (pY x - pY y) (pZ x - pZ y)
  rw [r1, r2, r3] at i1 i2 i3
  rw [mul24] at i1 i2 i3
  generalize (g 4 * g 8 - g 5 * g 7) * k1 + (g 2 * g 7 - g 1 * g 8) * k2 + (g 1 * g 5 - g 2 * g 4) * k3 = m1 at i1
  generalize (g 5 * g 6 - g 3 * g 8) * k1 + (g 0 * g 8 - g 2 * g 6) * k2 + (g 2 * g 3 - g 0 * g 5) * k3 = m2 at i2
  generalize (g 3 * g 7 - g 4 * g 6) * k1 + (g 1 * g 6 - g 0 * g 7) * k2 + (g 0 * g 4 - g 1 * g 3) * k3 = m3 at i3
  unfold detF at hd
  generalize g 0 * (g 4 * g 8 - g 5 * g 7) - g 1 * (g 3 * g 8 - g 5 * g 6) + g 2 * (g 3 * g 7 - g 4 * g 6) = dd at hd i1 i2 i3
  have j1 : pX x = pX y := by rcases hd with e | e <;> rw [e] at i1 <;> omega
  have j2 : pY x = pY y := by rcases hd with e | e <;> rw [e] at i2 <;> omega
  have j3 : pZ x = pZ y := by rcases hd with e | e <;> rw [e] at i3 <;> omega
  rw [← ex, ← ey, j1, j2, j3]
theorem vOK_det {k : Int} (hk : kOK k) (hd : detF (mdg k) = 1 ∨ detF (mdg k) = -1) : vOK k := ⟨hk, fun x y hx hy h => det_inj hd hx hy h⟩
theorem vOK_times {p q : Int} (hp : vOK p) (hq : vOK q) (h : timesK p q ≠ -1) : vOK (timesK p q) := by
  refine ⟨(times_digits h).1, fun x y hx hy e => ?_⟩
  rw [times_act x h, times_act y h] at e
  exact hq.2 x y hx hy (hp.2 _ _ (movK_pl _ _) (movK_pl _ _) e)
theorem times_lcancel {p q r : Int} (hp : vOK p) (hq : kOK q) (hr : kOK r) (h : timesK p q ≠ -1) (e : timesK p q = timesK p r) : q = r := by
  refine key_act hq hr fun x hx => ?_
  have h2 : timesK p r ≠ -1 := by rw [← e]; exact h
  have := times_act x h
  rw [e, times_act x h2] at this
  exact (hp.2 _ _ (movK_pl _ _) (movK_pl _ _) this).symm
theorem prodD_assoc {p q r : Int} (h1 : timesK p q ≠ -1) (h2 : timesK q r ≠ -1) : ∀ t, t < 9 → prodD (timesK p q) r t = prodD p (timesK q r) t := by
  obtain ⟨-, hd, -⟩ := times_digits h1
  obtain ⟨-, hd2, -⟩ := times_digits h2
  intro t ht
  have hr3 : t / 3 < 3 := by omega
  have hc3 : t % 3 < 3 := by omega
  unfold prodD
  rw [hd (t / 3 * 3) (by omega), hd (t / 3 * 3 + 1) (by omega), hd (t / 3 * 3 + 2) (by omega), hd2 (t % 3) (by omega), hd2 (t % 3 + 3) (by omega), hd2 (t % 3 + 6) (by omega)]
  unfold prodD
  generalize t / 3 = a at *
  generalize t % 3 = b at *
  rw [show a * 3 / 3 = a by omega, show (a * 3 + 1) / 3 = a by omega, show (a * 3 + 2) / 3 = a by omega, show a * 3 % 3 = 0 by omega, show (a * 3 + 1) % 3 = 1 by omega, show (a * 3 + 2) % 3 = 2 by omega, show b / 3 = 0 by omega, show (b + 3) / 3 = 1 by omega, show (b + 6) / 3 = 2 by omega, show b % 3 = b by omega, show (b + 3) % 3 = b by omega, show (b + 6) % 3 = b by omega]
  simp only [Nat.zero_mul, Nat.zero_add, Nat.one_mul, Nat.reduceMul, Nat.reduceAdd]
  grind
theorem nineP_congr {p q p' q' : Int} : ∀ n, (∀ t, t < n → prodD p q t = prodD p' q' t) → nineP p q n = nineP p' q' n
  | 0, _ => rfl
  | n + 1, h => by
    show nineP p q n * 3 + prodD p q n + 1 = nineP p' q' n * 3 + prodD p' q' n + 1
    rw [nineP_congr n (fun t ht => h t (by omega)), h n (by omega)]
theorem times_assoc {p q r : Int} (h1 : timesK p q ≠ -1) (h2 : timesK q r ≠ -1) : timesK (timesK p q) r = timesK p (timesK q r) := by
  have hd := prodD_assoc h1 h2
  have hs : movF (mdg (timesK p q)) (timesK p q % 13824) (r % 13824) = movF (mdg p) (p % 13824) (timesK q r % 13824) := by
    rw [(times_digits h2).2.2]
    exact times_act (r % 13824) h1
  have hc : (∀ t, t < 9 → -1 ≤ prodD (timesK p q) r t ∧ prodD (timesK p q) r t ≤ 1) ↔ (∀ t, t < 9 → -1 ≤ prodD p (timesK q r) t ∧ prodD p (timesK q r) t ≤ 1) := by
    constructor
    · intro h t ht
      rw [← hd t ht]; exact h t ht
    · intro h t ht
      rw [hd t ht]; exact h t ht
  rw [timesK.eq_def (timesK p q) r, timesK.eq_def p (timesK q r), hs, nineP_congr 9 hd]
  by_cases h : (∀ t, t < 9 → -1 ≤ prodD p (timesK q r) t ∧ prodD p (timesK q r) t ≤ 1)
  · rw [if_pos h, if_pos (hc.mpr h)]
  · rw [if_neg h, if_neg (fun g => h (hc.mp g))]
/-- the OPERATION that leaves all PLACES -/
def u0 : Int := 227874816
theorem u0_ok : kOK u0 := by unfold kOK u0; omega
theorem u0_mdg : mdg u0 0 = 1 ∧ mdg u0 1 = 0 ∧ mdg u0 2 = 0 ∧ mdg u0 3 = 0 ∧ mdg u0 4 = 1 ∧ mdg u0 5 = 0 ∧ mdg u0 6 = 0 ∧ mdg u0 7 = 0 ∧ mdg u0 8 = 1 ∧ u0 % 13824 = 0 := by decide
theorem u0_act {x : Int} (hx : isPl x) : movK u0 x = x := by
  obtain ⟨a0, a1, a2, a3, a4, a5, a6, a7, a8, a9⟩ := u0_mdg
  obtain ⟨e, h1, h2, h3⟩ := mk3_p hx
  unfold movK movF
  rw [a0, a1, a2, a3, a4, a5, a6, a7, a8, a9, show pX 0 = 0 from rfl, show pY 0 = 0 from rfl, show pZ 0 = 0 from rfl]
  rw [show (1 * pX x + 0 * pY x + 0 * pZ x + 0 + 72) % 24 = pX x by omega, show (0 * pX x + 1 * pY x + 0 * pZ x + 0 + 72) % 24 = pY x by omega, show (0 * pX x + 0 * pY x + 1 * pZ x + 0 + 72) % 24 = pZ x by omega]
  exact e
theorem u0_v : vOK u0 := ⟨u0_ok, fun x y hx hy h => by rw [u0_act hx, u0_act hy] at h; exact h⟩
theorem u0_prod (p : Int) : (∀ t, t < 9 → prodD u0 p t = mdg p t) ∧ (∀ t, t < 9 → prodD p u0 t = mdg p t) := by
  obtain ⟨a0, a1, a2, a3, a4, a5, a6, a7, a8, a9⟩ := u0_mdg
  constructor <;> intro t ht <;> rcases (show t = 0 ∨ t = 1 ∨ t = 2 ∨ t = 3 ∨ t = 4 ∨ t = 5 ∨ t = 6 ∨ t = 7 ∨ t = 8 by omega) with rfl | rfl | rfl | rfl | rfl | rfl | rfl | rfl | rfl <;> simp [prodD, a0, a1, a2, a3, a4, a5, a6, a7, a8]
theorem u0_l {p : Int} (hp : kOK p) : timesK u0 p = p := by
  have h : timesK u0 p ≠ -1 := times_ne.mpr fun t ht => by rw [(u0_prod p).1 t ht]; exact mdg_in p t
  exact key_act (times_digits h).1 hp fun x hx => by rw [times_act x h, u0_act (movK_pl p x)]
theorem u0_r {p : Int} (hp : kOK p) : timesK p u0 = p := by
  have h : timesK p u0 ≠ -1 := times_ne.mpr fun t ht => by rw [(u0_prod p).2 t ht]; exact mdg_in p t
  exact key_act (times_digits h).1 hp fun x hx => by rw [times_act x h, u0_act hx]
end
section
/-! Finite closed sets of keys are groups. -/
theorem len_sub : ∀ (a b : List Int), a.Nodup → (∀ x ∈ a, x ∈ b) → a.length ≤ b.length
  | [], _, _, _ => Nat.zero_le _
  | x :: a, b, hn, hs => by
    rw [List.nodup_cons] at hn
    have hx : x ∈ b := hs x List.mem_cons_self
    have h := len_sub a (b.erase x) hn.2 (fun y hy => by
      have hne : y ≠ x := fun e => hn.1 (by rw [← e]; exact hy)
      exact (List.mem_erase_of_ne hne).mpr (hs y (List.mem_cons_of_mem _ hy)))
    rw [List.length_erase_of_mem hx] at h
    have : 0 < b.length := List.length_pos_of_mem hx
    simp only [List.length_cons]
    omega
theorem full_sub {a b : List Int} (hn : a.Nodup) (hs : ∀ x ∈ a, x ∈ b) (hl : b.length ≤ a.length) : ∀ x ∈ b, x ∈ a := by
  intro x hx
  by_cases h : x ∈ a
  · exact h
  · have := len_sub (x :: a) b (List.nodup_cons.mpr ⟨h, hn⟩) (fun y hy => by
      rcases List.mem_cons.mp hy with rfl | hy
      · exact hx
      · exact hs y hy)
    simp only [List.length_cons] at this
    omega
theorem nodup_map_on {f : Int → Int} : ∀ {a : List Int}, a.Nodup → (∀ x ∈ a, ∀ y ∈ a, f x = f y → x = y) → (a.map f).Nodup
  | [], _, _ => List.nodup_nil
  | x :: a, hn, hi => by
    rw [List.nodup_cons] at hn
    rw [List.map_cons, List.nodup_cons]
    refine ⟨fun h => ?_, nodup_map_on hn.2 fun y hy z hz => hi y (List.mem_cons_of_mem _ hy) z (List.mem_cons_of_mem _ hz)⟩
    obtain ⟨y, hy, e⟩ := List.mem_map.mp h
    exact hn.1 (hi y (List.mem_cons_of_mem _ hy) x List.mem_cons_self e ▸ hy)
theorem nodup_lt {a : List Int} (h : a.Pairwise (· < ·)) : a.Nodup := h.imp fun h => Int.ne_of_lt h
theorem lt_ext : ∀ {a b : List Int}, a.Pairwise (· < ·) → b.Pairwise (· < ·) → (∀ x, x ∈ a ↔ x ∈ b) → a = b
  | [], [], _, _, _ => rfl
  | [], y :: b, _, _, h => absurd ((h y).mpr List.mem_cons_self) List.not_mem_nil
  | x :: a, [], _, _, h => absurd ((h x).mp List.mem_cons_self) List.not_mem_nil
  | x :: a, y :: b, ha, hb, h => by
    rw [List.pairwise_cons] at ha hb
    have e : x = y := by
      rcases List.mem_cons.mp ((h x).mp List.mem_cons_self) with e | e
      · exact e
      · rcases List.mem_cons.mp ((h y).mpr List.mem_cons_self) with e2 | e2
        · exact e2.symm
        · have := hb.1 x e
          have := ha.1 y e2
          omega
    subst e
    rw [lt_ext ha.2 hb.2 fun z => ?_]
    constructor
    · intro hz
      rcases List.mem_cons.mp ((h z).mp (List.mem_cons_of_mem _ hz)) with e | e
      · have := ha.1 z hz
        omega
      · exact e
    · intro hz
      rcases List.mem_cons.mp ((h z).mpr (List.mem_cons_of_mem _ hz)) with e | e
      · have := hb.1 z hz
        omega
      · exact e
/-- a set of keys, without order, that is a group -/
def isG (ks : List Int) : Prop := ks.Nodup ∧ u0 ∈ ks ∧ (∀ x ∈ ks, vOK x) ∧ ∀ x ∈ ks, ∀ y ∈ ks, timesK x y ∈ ks
theorem isG.ne {ks : List Int} (h : isG ks) {x : Int} (hx : x ∈ ks) : x ≠ -1 := by
  have := (h.2.2.1 x hx).1.1
  omega
theorem isG.tne {ks : List Int} (h : isG ks) {x y : Int} (hx : x ∈ ks) (hy : y ∈ ks) : timesK x y ≠ -1 := h.ne (h.2.2.2 x hx y hy)
theorem isG.assoc {ks : List Int} (h : isG ks) {x y z : Int} (hx : x ∈ ks) (hy : y ∈ ks) (hz : z ∈ ks) : timesK (timesK x y) z = timesK x (timesK y z) := times_assoc (h.tne hx hy) (h.tne hy hz)
theorem isG.lc {ks : List Int} (h : isG ks) {a x y : Int} (ha : a ∈ ks) (hx : x ∈ ks) (hy : y ∈ ks) (e : timesK a x = timesK a y) : x = y := times_lcancel (h.2.2.1 a ha) (h.2.2.1 x hx).1 (h.2.2.1 y hy).1 (h.tne ha hx) e
theorem isG.rinv {ks : List Int} (h : isG ks) {a : Int} (ha : a ∈ ks) : ∃ b ∈ ks, timesK a b = u0 := by
  have h1 := nodup_map_on (f := timesK a) h.1 fun x hx y hy e => h.lc ha hx hy e
  have h2 := full_sub (b := ks) h1 (fun x hx => by
    obtain ⟨y, hy, rfl⟩ := List.mem_map.mp hx
    exact h.2.2.2 a ha y hy) (by rw [List.length_map]; exact Nat.le_refl _) u0 h.2.1
  obtain ⟨b, hb, e⟩ := List.mem_map.mp h2
  exact ⟨b, hb, e⟩
theorem isG.ul {ks : List Int} (h : isG ks) {a : Int} (ha : a ∈ ks) : timesK u0 a = a := u0_l (h.2.2.1 a ha).1
theorem isG.ur {ks : List Int} (h : isG ks) {a : Int} (ha : a ∈ ks) : timesK a u0 = a := u0_r (h.2.2.1 a ha).1
theorem isG.inv {ks : List Int} (h : isG ks) {a : Int} (ha : a ∈ ks) : ∃ b ∈ ks, timesK a b = u0 ∧ timesK b a = u0 := by
  obtain ⟨b, hb, e⟩ := h.rinv ha
  obtain ⟨c, hc, e2⟩ := h.rinv hb
  have e3 : a = c := by
    have := h.assoc ha hb hc
    rw [e, e2, h.ul hc, h.ur ha] at this
    exact this.symm
  subst e3
  exact ⟨b, hb, e, e2⟩
theorem isG.rc {ks : List Int} (h : isG ks) {a x y : Int} (ha : a ∈ ks) (hx : x ∈ ks) (hy : y ∈ ks) (e : timesK x a = timesK y a) : x = y := by
  obtain ⟨b, hb, e1, e2⟩ := h.inv ha
  have h1 := h.assoc hx ha hb
  have h2 := h.assoc hy ha hb
  rw [e1, h.ur hx] at h1
  rw [e1, h.ur hy] at h2
  rw [← h1, ← h2, e]
/-- what comes of the chosen ones, one behind the other -/
def Reach (g : List Int) (x : Int) : Prop := ∀ S : Int → Prop, S u0 → (∀ y a, S y → a ∈ g → timesK y a ≠ -1 → S (timesK y a)) → S x
theorem Reach.u (g : List Int) : Reach g u0 := fun _ h _ => h
theorem Reach.step {g : List Int} {x a : Int} (h : Reach g x) (ha : a ∈ g) (hn : timesK x a ≠ -1) : Reach g (timesK x a) := fun S h0 h1 => h1 x a (h S h0 h1) ha hn
/-- ks are the OPERATIONS of the GROUP of g -/
def genOK (g ks : List Int) : Prop := ks.Pairwise (· < ·) ∧ ks.length ≤ 192 ∧ (∀ x, x ∈ ks ↔ Reach g x) ∧ ∀ x ∈ ks, ∀ a ∈ g, timesK x a ≠ -1
theorem genOK.uniq {g a b : List Int} (ha : genOK g a) (hb : genOK g b) : a = b := lt_ext ha.1 hb.1 fun x => (ha.2.2.1 x).trans (hb.2.2.1 x).symm
theorem genOK.v {g ks : List Int} (h : genOK g ks) (hg : ∀ a ∈ g, vOK a) : ∀ x ∈ ks, vOK x := fun x hx => (h.2.2.1 x).mp hx vOK u0_v fun y a hy ha hn => vOK_times hy (hg a ha) hn
theorem genOK.isG {g ks : List Int} (h : genOK g ks) (hg : ∀ a ∈ g, vOK a) : isG ks := by
  refine ⟨nodup_lt h.1, (h.2.2.1 u0).mpr (Reach.u g), h.v hg, fun x hx y hy => ?_⟩
  have hv := h.v hg
  refine (((h.2.2.1 y).mp hy) (fun y => y ∈ ks ∧ timesK x y ∈ ks) ⟨(h.2.2.1 u0).mpr (Reach.u g), by rw [u0_r (hv x hx).1]; exact hx⟩ fun y a hy ha hn => ?_).2
  have h1 : timesK x y ≠ -1 := by
    have := (hv _ hy.2).1.1
    omega
  have h2 := times_assoc h1 hn
  have h3 := h.2.2.2 _ hy.2 a ha
  refine ⟨(h.2.2.1 _).mpr (Reach.step ((h.2.2.1 y).mp hy.1) ha hn), ?_⟩
  rw [← h2]
  exact (h.2.2.1 _).mpr (Reach.step ((h.2.2.1 _).mp hy.2) ha h3)
end
section
/-! A Row: different numbers, the lowest first, at the front of an array. -/
def lat (ks : List Int) (k : Int) : Int := if 0 ≤ k then ks.getD k.toNat (-1) else -1
def rowOK (n : Nat) (f : Nat → Int) (ks : List Int) : Prop := ks.length ≤ n ∧ n ≤ 1000 ∧ (∀ j, j < ks.length → f j = ks.getD j (-1)) ∧ ks.Pairwise (· < ·) ∧ ∀ x ∈ ks, 0 ≤ x ∧ x < 2147483648
theorem getD_mem {ks : List Int} {j : Nat} (h : j < ks.length) : ks.getD j (-1) ∈ ks := by
  rw [List.getD_eq_getElem?_getD, List.getElem?_eq_getElem h]
  exact List.getElem_mem h
theorem getD_out {ks : List Int} {j : Nat} (h : ks.length ≤ j) : ks.getD j (-1) = -1 := by
  rw [List.getD_eq_getElem?_getD, List.getElem?_eq_none h]
  rfl
theorem mem_getD {ks : List Int} {x : Int} (h : x ∈ ks) : ∃ j, j < ks.length ∧ ks.getD j (-1) = x := by
  obtain ⟨j, hj, e⟩ := List.getElem_of_mem h
  exact ⟨j, hj, by rw [List.getD_eq_getElem?_getD, List.getElem?_eq_getElem hj]; exact e⟩
theorem getD_mono {ks : List Int} (hs : ks.Pairwise (· < ·)) {i j : Nat} (hij : i < j) (hj : j < ks.length) : ks.getD i (-1) < ks.getD j (-1) := by
  have hi : i < ks.length := Nat.lt_trans hij hj
  rw [List.getD_eq_getElem?_getD, List.getD_eq_getElem?_getD, List.getElem?_eq_getElem hi, List.getElem?_eq_getElem hj]
  exact List.pairwise_iff_getElem.mp hs i j hi hj hij
theorem getD_le {ks : List Int} (hs : ks.Pairwise (· < ·)) {i j : Nat} (hij : i ≤ j) (hj : j < ks.length) : ks.getD i (-1) ≤ ks.getD j (-1) := by
  rcases Nat.lt_or_eq_of_le hij with h | rfl
  · exact Int.le_of_lt (getD_mono hs h hj)
  · exact Int.le_refl _
theorem getD_inj {ks : List Int} (hs : ks.Pairwise (· < ·)) {i j : Nat} (hi : i < ks.length) (hj : j < ks.length) (e : ks.getD i (-1) = ks.getD j (-1)) : i = j := by
  rcases Nat.lt_trichotomy i j with h | h | h
  · have := getD_mono hs h hj; omega
  · exact h
  · have := getD_mono hs h hi; omega
theorem lat_in {ks : List Int} {k : Int} (h0 : 0 ≤ k) (h : k < ks.length) : lat ks k = ks.getD k.toNat (-1) ∧ lat ks k ∈ ks := by
  unfold lat
  rw [if_pos h0]
  exact ⟨rfl, getD_mem (by omega)⟩
theorem lat_out {ks : List Int} {k : Int} (h : k < 0 ∨ (ks.length : Int) ≤ k) : lat ks k = -1 := by
  unfold lat
  by_cases h0 : 0 ≤ k
  · rw [if_pos h0, getD_out (by omega)]
  · rw [if_neg h0]
theorem rowOK.rng {n : Nat} {f : Nat → Int} {ks : List Int} (h : rowOK n f ks) {j : Nat} (hj : j < ks.length) : 0 ≤ ks.getD j (-1) ∧ ks.getD j (-1) < 2147483648 := h.2.2.2.2 _ (getD_mem hj)
theorem rowOK.latr {n : Nat} {f : Nat → Int} {ks : List Int} (h : rowOK n f ks) (k : Int) : -1 ≤ lat ks k ∧ lat ks k < 2147483648 := by
  by_cases hk : 0 ≤ k ∧ k < ks.length
  · have h1 := lat_in hk.1 hk.2
    have := h.2.2.2.2 _ h1.2
    omega
  · rw [lat_out (by omega)]; omega
def fnbI (ks : List Int) (x lo hi : Int) : Prop := 0 ≤ lo ∧ lo ≤ hi ∧ hi ≤ ks.length ∧ (∀ j : Nat, (j : Int) < lo → ks.getD j (-1) < x) ∧ ∀ j : Nat, hi ≤ (j : Int) → j < ks.length → x ≤ ks.getD j (-1)
theorem fnbI.up {ks : List Int} {x lo hi mid : Int} (h : fnbI ks x lo hi) (hs : ks.Pairwise (· < ·)) (hm : lo ≤ mid ∧ mid < hi) (hx : ks.getD mid.toNat (-1) < x) : fnbI ks x (mid + 1) hi := by
  obtain ⟨h1, h2, h3, h4, h5⟩ := h
  refine ⟨by omega, by omega, h3, fun j hj => ?_, h5⟩
  have := getD_le hs (i := j) (j := mid.toNat) (by omega) (by omega)
  omega
theorem fnbI.dn {ks : List Int} {x lo hi mid : Int} (h : fnbI ks x lo hi) (hs : ks.Pairwise (· < ·)) (hm : lo ≤ mid ∧ mid < hi) (hx : x ≤ ks.getD mid.toNat (-1)) : fnbI ks x lo mid := by
  obtain ⟨h1, h2, h3, h4, h5⟩ := h
  refine ⟨h1, by omega, by omega, h4, fun j hj hl => ?_⟩
  have := getD_le hs (i := mid.toNat) (j := j) (by omega) hl
  omega
/-- where x stands, or would stand -/
def fnb (ks : List Int) (x z : Int) : Prop := fnbI ks x z z
theorem fnb.mem {ks : List Int} {x z : Int} (h : fnb ks x z) (hs : ks.Pairwise (· < ·)) (hx : 0 ≤ x) : (lat ks z = x ↔ x ∈ ks) := by
  obtain ⟨h1, h2, h3, h4, h5⟩ := h
  constructor
  · intro e
    by_cases hz : z < ks.length
    · rw [← e]; exact (lat_in h1 hz).2
    · rw [lat_out (by omega)] at e; omega
  · intro hm
    obtain ⟨j, hj, e⟩ := mem_getD hm
    have a1 : ¬ (j : Int) < z := fun q => by have := h4 j q; omega
    by_cases hjz : (j : Int) = z
    · rw [(lat_in h1 (by omega)).1, show z.toNat = j by omega, e]
    · have a2 := h5 z.toNat (by omega) (by omega)
      have a3 := getD_mono hs (i := z.toNat) (j := j) (by omega) hj
      omega
/-- the search's width, step by step -/
def hbs : Nat → Int
  | 0 => 1024
  | k + 1 => hbs k / 2
theorem hbs_32 : hbs 32 = 0 := by decide
/-- a row with one number more -/
def rowIns (ks ks' : List Int) (x : Int) : Prop := (∀ y, y ∈ ks' ↔ y ∈ ks ∨ y = x) ∧ ks'.length = ks.length + 1
theorem getD_app {a b : List Int} {j : Nat} : (a ++ b).getD j (-1) = if j < a.length then a.getD j (-1) else b.getD (j - a.length) (-1) := by
  simp only [List.getD_eq_getElem?_getD]
  by_cases h : j < a.length
  · rw [if_pos h, List.getElem?_append_left h]
  · rw [if_neg h, List.getElem?_append_right (by omega)]
theorem rowOK.ins {n : Nat} {f g : Nat → Int} {ks : List Int} {x z : Int} (h : rowOK n f ks) (hz : fnb ks x z) (hx : 0 ≤ x ∧ x < 2147483648) (hm : x ∉ ks) (hl : ks.length < n) (hg : ∀ j, j ≤ ks.length → g j = if (j : Int) < z then f j else if (j : Int) = z then x else f (j - 1)) : ∃ ks', rowOK n g ks' ∧ rowIns ks ks' x := by
  obtain ⟨h1, h2, h3, h4, h5⟩ := h
  obtain ⟨z1, z2, z3, z4, z5⟩ := hz
  have hlt : (ks.take z.toNat).length = z.toNat := by rw [List.length_take]; omega
  refine ⟨ks.take z.toNat ++ x :: ks.drop z.toNat, ⟨?_, h2, ?_, ?_, ?_⟩, ?_, ?_⟩
  · simp; omega
  · intro j hj
    have hj2 : j ≤ ks.length := by simp at hj; omega
    rw [hg j hj2, getD_app, hlt]
    by_cases a : (j : Int) < z
    · rw [if_pos a, if_pos (by omega), h3 j (by omega)]
      simp only [List.getD_eq_getElem?_getD]
      rw [List.getElem?_take, if_pos (by omega)]
    · rw [if_neg a, if_neg (show ¬ j < z.toNat by omega)]
      by_cases b : (j : Int) = z
      · rw [if_pos b, show j - z.toNat = 0 by omega]
        rfl
      · rw [if_neg b, h3 (j - 1) (by omega), show j - z.toNat = (j - 1 - z.toNat) + 1 by omega]
        simp only [List.getD_eq_getElem?_getD, List.getElem?_cons_succ]
        rw [List.getElem?_drop, show z.toNat + (j - 1 - z.toNat) = j - 1 by omega]
  · rw [List.pairwise_append]
    refine ⟨h4.sublist (List.take_sublist _ _), ?_, ?_⟩
    · rw [List.pairwise_cons]
      refine ⟨fun y hy => ?_, h4.sublist (List.drop_sublist _ _)⟩
      obtain ⟨i, hi, e⟩ := List.getElem_of_mem hy
      rw [List.getElem_drop] at e
      rw [List.length_drop] at hi
      have := z5 (z.toNat + i) (by omega) (by omega)
      rw [List.getD_eq_getElem?_getD, List.getElem?_eq_getElem (by omega)] at this
      have e2 : (some ks[z.toNat + i]).getD (-1) = y := e
      rw [e2] at this
      have : y ≠ x := fun q => hm (by rw [← q]; exact List.mem_of_mem_drop hy)
      omega
    · intro y hy w hw
      obtain ⟨i, hi, e⟩ := List.getElem_of_mem hy
      rw [hlt] at hi
      have hyx := z4 i (by omega)
      rw [List.getD_eq_getElem?_getD, List.getElem?_eq_getElem (by omega)] at hyx
      rw [List.getElem_take] at e
      have e2 : (some ks[i]).getD (-1) = y := e
      rw [e2] at hyx
      rcases List.mem_cons.mp hw with rfl | hw
      · exact hyx
      · obtain ⟨i2, hi2, e3⟩ := List.getElem_of_mem hw
        rw [List.getElem_drop] at e3
        rw [List.length_drop] at hi2
        have := z5 (z.toNat + i2) (by omega) (by omega)
        rw [List.getD_eq_getElem?_getD, List.getElem?_eq_getElem (by omega)] at this
        have e4 : (some ks[z.toNat + i2]).getD (-1) = w := e3
        rw [e4] at this
        omega
  · intro y hy
    rcases List.mem_append.mp hy with q | q
    · exact h5 y (List.mem_of_mem_take q)
    · rcases List.mem_cons.mp q with rfl | q
      · exact hx
      · exact h5 y (List.mem_of_mem_drop q)
  · intro y
    constructor
    · intro hy
      rcases List.mem_append.mp hy with q | q
      · exact Or.inl (List.mem_of_mem_take q)
      · rcases List.mem_cons.mp q with rfl | q
        · exact Or.inr rfl
        · exact Or.inl (List.mem_of_mem_drop q)
    · rintro (q | rfl)
      · rw [← List.take_append_drop z.toNat ks] at q
        rcases List.mem_append.mp q with q | q
        · exact List.mem_append_left _ q
        · exact List.mem_append_right _ (List.mem_cons_of_mem _ q)
      · exact List.mem_append_right _ List.mem_cons_self
  · simp; omega
def lix (ks : List Int) (x z : Int) : Prop := (x ∈ ks ∧ 0 ≤ z ∧ z < ks.length ∧ ks.getD z.toNat (-1) = x) ∨ (x ∉ ks ∧ z = -1)
theorem list_eq_getD : ∀ {a b : List Int}, a.length = b.length → (∀ j, j < a.length → a.getD j (-1) = b.getD j (-1)) → a = b := by
  intro a b hl h
  apply List.ext_getElem hl
  intro i h1 h2
  have := h i h1
  rw [List.getD_eq_getElem?_getD, List.getD_eq_getElem?_getD, List.getElem?_eq_getElem h1, List.getElem?_eq_getElem h2] at this
  exact this
end
section
/-! What the bench reads and reckons. -/
def rd (k : Int) (g : Nat → Int) : Nat → Int := fun j => if j < 9 then mdg k j else g j
def nnT (k : Int) : Nat → Int
  | 0 => k / 13824
  | t + 1 => nnT k t / 3
theorem nnT_mdg {k : Int} {t : Nat} (ht : t < 9) : nnT k t % 3 - 1 = mdg k (8 - t) := by
  rcases (show t = 0 ∨ t = 1 ∨ t = 2 ∨ t = 3 ∨ t = 4 ∨ t = 5 ∨ t = 6 ∨ t = 7 ∨ t = 8 by omega) with rfl | rfl | rfl | rfl | rfl | rfl | rfl | rfl | rfl <;> simp only [nnT, mdg, p3, Nat.reduceSub, List.getD_cons_zero, List.getD_cons_succ] <;> omega
theorem nnT_rng {k : Int} (h : 0 ≤ k ∧ k < 2147483648) : ∀ t, 0 ≤ nnT k t ∧ nnT k t < 2147483648
  | 0 => by unfold nnT; omega
  | t + 1 => by
    have := nnT_rng h t
    unfold nnT
    omega
def rdT (k : Int) (g : Nat → Int) (t : Nat) : Nat → Int := fun j => if 9 - t ≤ j ∧ j < 9 then mdg k j else g j
theorem rdT_0 (k : Int) (g : Nat → Int) : rdT k g 0 = g := by
  funext j
  unfold rdT
  rw [if_neg (by omega)]
theorem rdT_9 (k : Int) (g : Nat → Int) : rdT k g 9 = rd k g := by
  funext j
  unfold rdT rd
  by_cases h : j < 9
  · rw [if_pos h, if_pos (by omega)]
  · rw [if_neg h, if_neg (by omega)]
theorem rdT_s {k : Int} {g : Nat → Int} {t : Nat} (ht : t < 9) : zu (rdT k g t) (8 - (t : Int)).toNat (nnT k t % 3 - 1) = rdT k g (t + 1) := by
  funext j
  rw [nnT_mdg ht, show (8 - (t : Int)).toNat = 8 - t by omega]
  unfold zu rdT
  by_cases h : j = 8 - t
  · rw [if_pos h, if_pos (by omega), h]
  · rw [if_neg h]
    by_cases h2 : 9 - t ≤ j ∧ j < 9
    · rw [if_pos h2, if_pos (by omega)]
    · rw [if_neg h2, if_neg (by omega)]
theorem mul_in1 {a b : Int} (ha : -1 ≤ a ∧ a ≤ 1) (hb : -1 ≤ b ∧ b ≤ 1) : -1 ≤ a * b ∧ a * b ≤ 1 := by
  rcases (show a = -1 ∨ a = 0 ∨ a = 1 by omega) with rfl | rfl | rfl <;> omega
theorem mul_in2 {a b n : Int} (ha : -1 ≤ a ∧ a ≤ 1) (hb : -n ≤ b ∧ b ≤ n) : -n ≤ a * b ∧ a * b ≤ n := by
  rcases (show a = -1 ∨ a = 0 ∨ a = 1 by omega) with rfl | rfl | rfl <;> omega
theorem det_rng (k : Int) : -6 ≤ detF (mdg k) ∧ detF (mdg k) ≤ 6 := by
  unfold detF
  have a := mul_in2 (n := 2) (mdg_in k 0) (b := mdg k 4 * mdg k 8 - mdg k 5 * mdg k 7) (by have := mul_in1 (mdg_in k 4) (mdg_in k 8); have := mul_in1 (mdg_in k 5) (mdg_in k 7); omega)
  have b := mul_in2 (n := 2) (mdg_in k 1) (b := mdg k 3 * mdg k 8 - mdg k 5 * mdg k 6) (by have := mul_in1 (mdg_in k 3) (mdg_in k 8); have := mul_in1 (mdg_in k 5) (mdg_in k 6); omega)
  have c := mul_in2 (n := 2) (mdg_in k 2) (b := mdg k 3 * mdg k 7 - mdg k 4 * mdg k 6) (by have := mul_in1 (mdg_in k 3) (mdg_in k 7); have := mul_in1 (mdg_in k 4) (mdg_in k 6); omega)
  omega
def trK (k : Int) : Int := mdg k 0 + mdg k 4 + mdg k 8
theorem tr_rng (k : Int) : -3 ≤ trK k ∧ trK k ≤ 3 := by
  unfold trK
  have := mdg_in k 0
  have := mdg_in k 4
  have := mdg_in k 8
  omega
/-- the SORT of a key's MATRIX -/
def sortK (k : Int) : Int := if detF (mdg k) = 1 ∨ detF (mdg k) = -1 then (if 0 ≤ detF (mdg k) * trK k + 1 ∧ detF (mdg k) * trK k + 1 < 5 then detF (mdg k) * st_sorts.getD (detF (mdg k) * trK k + 1).toNat 0 else 0) else 0
theorem prodD_rng (p q : Int) (t : Nat) : -3 ≤ prodD p q t ∧ prodD p q t ≤ 3 := by
  unfold prodD
  have := mul_in1 (mdg_in p (t / 3 * 3)) (mdg_in q (t % 3))
  have := mul_in1 (mdg_in p (t / 3 * 3 + 1)) (mdg_in q (t % 3 + 3))
  have := mul_in1 (mdg_in p (t / 3 * 3 + 2)) (mdg_in q (t % 3 + 6))
  omega
/-- one of the three numbers that a PLACE is taken to, before the remainder -/
theorem line_rng {a b c x y z s : Int} (ha : -1 ≤ a ∧ a ≤ 1) (hb : -1 ≤ b ∧ b ≤ 1) (hc : -1 ≤ c ∧ c ≤ 1) (hx : 0 ≤ x ∧ x < 24) (hy : 0 ≤ y ∧ y < 24) (hz : 0 ≤ z ∧ z < 24) (hs : 0 ≤ s ∧ s < 24) : -69 ≤ a * x + b * y + c * z + s ∧ a * x + b * y + c * z + s ≤ 92 := by
  have := mul_in2 (n := 23) ha (b := x) (by omega)
  have := mul_in2 (n := 23) hb (b := y) (by omega)
  have := mul_in2 (n := 23) hc (b := z) (by omega)
  omega
theorem rd_in (k : Int) (g : Nat → Int) : ∀ j, j < 9 → -1 ≤ rd k g j ∧ rd k g j ≤ 1 := fun j hj => by
  unfold rd
  rw [if_pos hj]
  exact mdg_in k j
theorem rd_at {k : Int} {g : Nat → Int} {j : Nat} (hj : j < 9) : rd k g j = mdg k j := if_pos hj
theorem prod_at {p q : Int} {gl gr : Nat → Int} {rr c : Nat} (hr : rr < 3) (hc : c < 3) : rd p gl (3 * (rr : Int)).toNat * rd q gr c + rd p gl (3 * (rr : Int) + 1).toNat * rd q gr ((c : Int) + 3).toNat + rd p gl (3 * (rr : Int) + 2).toNat * rd q gr ((c : Int) + 6).toNat = prodD p q (3 * rr + c) := by
  rw [show (3 * (rr : Int)).toNat = 3 * rr by omega, show (3 * (rr : Int) + 1).toNat = 3 * rr + 1 by omega, show (3 * (rr : Int) + 2).toNat = 3 * rr + 2 by omega, show ((c : Int) + 3).toNat = c + 3 by omega, show ((c : Int) + 6).toNat = c + 6 by omega]
  rw [rd_at (by omega), rd_at (by omega), rd_at (by omega), rd_at (by omega), rd_at (by omega), rd_at (by omega)]
  unfold prodD
  rw [show (3 * rr + c) / 3 * 3 = 3 * rr by omega, show (3 * rr + c) % 3 = c by omega]
/-- powers -/
def powK (k : Int) : Nat → Int
  | 0 => u0
  | 1 => k
  | n + 2 => timesK (powK k (n + 1)) k
theorem powK_s {k : Int} {n : Nat} (h : 1 ≤ n) : powK k (n + 1) = timesK (powK k n) k := by
  cases n with
  | zero => omega
  | succ n => rfl
/-- how often it is done until all PLACES are left, if that is so within 192 -/
def trn (k z : Int) : Prop := (1 ≤ z ∧ z ≤ 192 ∧ powK k z.toNat = u0 ∧ ∀ j : Nat, 1 ≤ j → (j : Int) < z → powK k j ≠ u0) ∨ (z = -1 ∧ ((∃ j : Nat, 1 ≤ j ∧ j ≤ 193 ∧ powK k j = -1) ∨ ∀ j : Nat, 1 ≤ j → j ≤ 192 → powK k j ≠ u0))
theorem times_rng {p q : Int} : timesK p q = -1 ∨ kOK (timesK p q) := by
  by_cases h : timesK p q = -1
  · exact Or.inl h
  · exact Or.inr (times_digits h).1
end
section
/-! Closing by cosets. -/
def plL : List Int := (List.range 13824).map (fun (n : Nat) => (n : Int))
theorem mem_plL {x : Int} : x ∈ plL ↔ isPl x := by
  unfold plL isPl
  constructor
  · intro h
    obtain ⟨n, hn, rfl⟩ := List.mem_map.mp h
    have := List.mem_range.mp hn
    omega
  · intro h
    exact List.mem_map.mpr ⟨x.toNat, List.mem_range.mpr (by omega), by omega⟩
theorem plL_nodup : plL.Nodup := by
  unfold plL
  rw [List.nodup_iff_pairwise_ne, List.pairwise_map]
  have h : (List.range 13824).Pairwise (· ≠ ·) := List.nodup_range
  exact h.imp fun h e => h (by omega)
theorem act_surj {k y : Int} (hk : vOK k) (hy : isPl y) : ∃ x, isPl x ∧ movK k x = y := by
  have h1 := nodup_map_on (f := movK k) plL_nodup fun x hx y hy e => hk.2 x y (mem_plL.mp hx) (mem_plL.mp hy) e
  have h2 := full_sub (b := plL) h1 (fun x hx => by
    obtain ⟨z, hz, rfl⟩ := List.mem_map.mp hx
    exact mem_plL.mpr (movK_pl k z)) (by rw [List.length_map]; exact Nat.le_refl _) y (mem_plL.mpr hy)
  obtain ⟨x, hx, e⟩ := List.mem_map.mp h2
  exact ⟨x, mem_plL.mp hx, e⟩
theorem times_rcancel {p q x : Int} (hx : vOK x) (hp : kOK p) (hq : kOK q) (h : timesK p x ≠ -1) (e : timesK p x = timesK q x) : p = q := by
  have h2 : timesK q x ≠ -1 := by rw [← e]; exact h
  refine key_act hp hq fun y hy => ?_
  obtain ⟨z, -, rfl⟩ := act_surj hx hy
  rw [← times_act z h, ← times_act z h2, e]
theorem isG.back {H : List Int} (h : isG H) {a x : Int} (ha : a ∈ H) (hx : kOK x) (hne : timesK a x ≠ -1) : ∃ b ∈ H, timesK b (timesK a x) = x := by
  obtain ⟨b, hb, -, e⟩ := h.inv ha
  refine ⟨b, hb, ?_⟩
  have hba : timesK b a ≠ -1 := by rw [e]; unfold u0; omega
  rw [← times_assoc hba hne, e, u0_l hx]
def cosets (H rs : List Int) : List Int := rs.flatMap (fun r => H.map (fun h => timesK h r))
theorem mem_cosets {H rs : List Int} {x : Int} : x ∈ cosets H rs ↔ ∃ r ∈ rs, ∃ h ∈ H, timesK h r = x := by
  unfold cosets
  rw [List.mem_flatMap]
  constructor
  · rintro ⟨r, hr, hx⟩
    obtain ⟨h, hh, e⟩ := List.mem_map.mp hx
    exact ⟨r, hr, h, hh, e⟩
  · rintro ⟨r, hr, h, hh, e⟩
    exact ⟨r, hr, List.mem_map.mpr ⟨h, hh, e⟩⟩
theorem cosets_add (H rs : List Int) (x : Int) : cosets H (rs ++ [x]) = cosets H rs ++ H.map (fun h => timesK h x) := by
  unfold cosets
  rw [List.flatMap_append]
  simp
theorem cosets_len (H : List Int) : ∀ rs : List Int, (cosets H rs).length = H.length * rs.length
  | [] => by simp [cosets]
  | r :: rs => by
    have := cosets_len H rs
    unfold cosets at *
    rw [List.flatMap_cons, List.length_append, this, List.length_map, List.length_cons, Nat.mul_succ]
    omega
theorem cosets_at (H : List Int) (hH : 0 < H.length) : ∀ (rs : List Int) (i : Nat), i < rs.length → (cosets H rs).getD (H.length * i) (-1) = timesK (H.getD 0 (-1)) (rs.getD i (-1))
  | [], i, h => absurd h (Nat.not_lt_zero _)
  | r :: rs, i, h => by
    have e : cosets H (r :: rs) = H.map (fun h => timesK h r) ++ cosets H rs := by unfold cosets; rw [List.flatMap_cons]
    rw [e, getD_app, List.length_map]
    cases i with
    | zero =>
      rw [Nat.mul_zero, if_pos hH]
      simp only [List.getD_eq_getElem?_getD, List.getElem?_map, List.getElem?_eq_getElem hH, List.getElem?_cons_zero]
      rfl
    | succ i =>
      rw [if_neg (by rw [Nat.mul_succ]; omega), show H.length * (i + 1) - H.length = H.length * i by rw [Nat.mul_succ]; omega, cosets_at H hH rs i (by simpa using h)]
      simp only [List.getD_eq_getElem?_getD, List.getElem?_cons_succ]
def DI (H g ks rs : List Int) : Prop := isG H ∧ H.getD 0 (-1) = u0 ∧ rs.getD 0 (-1) = u0 ∧ (∀ r ∈ rs, vOK r) ∧ (∀ r ∈ rs, ∀ h ∈ H, timesK h r ≠ -1 ∧ Reach g (timesK h r)) ∧ (cosets H rs).Nodup ∧ ∀ x, x ∈ ks ↔ x ∈ cosets H rs
theorem DI.v {H g ks rs : List Int} (h : DI H g ks rs) {x : Int} (hx : x ∈ ks) : vOK x := by
  obtain ⟨r, hr, a, ha, rfl⟩ := mem_cosets.mp ((h.2.2.2.2.2.2 x).mp hx)
  exact vOK_times (h.1.2.2.1 a ha) (h.2.2.2.1 r hr) (h.2.2.2.2.1 r hr a ha).1
theorem DI.fresh {H g ks rs : List Int} (h : DI H g ks rs) {x : Int} (hv : kOK x) (hx : x ∉ ks) {a : Int} (ha : a ∈ H) (hne : timesK a x ≠ -1) : timesK a x ∉ ks := by
  intro hm
  obtain ⟨r, hr, c, hc, e⟩ := mem_cosets.mp ((h.2.2.2.2.2.2 _).mp hm)
  obtain ⟨b, hb, eb⟩ := h.1.back ha hv hne
  have hcr := (h.2.2.2.2.1 r hr c hc).1
  apply hx
  rw [h.2.2.2.2.2.2 x, ← eb, ← e, ← times_assoc (h.1.tne hb hc) hcr]
  exact mem_cosets.mpr ⟨r, hr, timesK b c, h.1.2.2.2 b hb c hc, rfl⟩
theorem DI.blk {H g ks rs : List Int} (h : DI H g ks rs) {x : Int} (hv : vOK x) (hne : ∀ a ∈ H, timesK a x ≠ -1) : (H.map (fun a => timesK a x)).Nodup :=
  nodup_map_on h.1.1 fun a ha b hb e => times_rcancel hv (h.1.2.2.1 a ha).1 (h.1.2.2.1 b hb).1 (hne a ha) e
theorem DI.dis {H g ks rs : List Int} (h : DI H g ks rs) {x : Int} (hv : vOK x) (hx : x ∉ ks) (hne : ∀ a ∈ H, timesK a x ≠ -1) : (cosets H rs ++ H.map (fun a => timesK a x)).Nodup := by
  rw [List.nodup_append]
  refine ⟨h.2.2.2.2.2.1, h.blk hv hne, fun a ha b hb e => ?_⟩
  obtain ⟨c, hc, rfl⟩ := List.mem_map.mp hb
  exact h.fresh hv.1 hx hc (hne c hc) ((h.2.2.2.2.2.2 _).mpr (e ▸ ha))
theorem DI.add {H g ks ks' rs : List Int} (h : DI H g ks rs) {x : Int} (hv : vOK x) (hx : x ∉ ks) (hne : ∀ a ∈ H, timesK a x ≠ -1) (hre : ∀ a ∈ H, Reach g (timesK a x)) (hk : ∀ y, y ∈ ks' ↔ y ∈ ks ∨ y ∈ H.map (fun a => timesK a x)) : DI H g ks' (rs ++ [x]) := by
  have hnd := h.dis hv hx hne
  obtain ⟨h1, h2, h3, h4, h5, h6, h7⟩ := h
  refine ⟨h1, h2, ?_, ?_, ?_, ?_, ?_⟩
  · rw [getD_app]
    by_cases h0 : 0 < rs.length
    · rw [if_pos h0]; exact h3
    · exfalso
      have : rs = [] := List.length_eq_zero_iff.mp (by omega)
      rw [this] at h3
      exact absurd h3 (by decide)
  · intro r hr
    rcases List.mem_append.mp hr with q | q
    · exact h4 r q
    · rw [List.mem_singleton.mp q]; exact hv
  · intro r hr a ha
    rcases List.mem_append.mp hr with q | q
    · exact h5 r q a ha
    · rw [List.mem_singleton.mp q]; exact ⟨hne a ha, hre a ha⟩
  · rw [cosets_add]; exact hnd
  · intro y
    rw [cosets_add, List.mem_append, ← h7, hk]
theorem DI.next {H g ks rs : List Int} (h : DI H g ks rs) {r a : Int} (hr : r ∈ rs) (ha : a ∈ g) (hv : vOK a) (hne : timesK r a ≠ -1) : vOK (timesK r a) ∧ ∀ c ∈ H, timesK c (timesK r a) ≠ -1 → Reach g (timesK c (timesK r a)) := by
  refine ⟨vOK_times (h.2.2.2.1 r hr) hv hne, fun c hc hn => ?_⟩
  have h5 := h.2.2.2.2.1 r hr c hc
  rw [← times_assoc h5.1 hne] at hn ⊢
  exact Reach.step h5.2 ha hn
theorem DI.u {H g ks rs : List Int} (h : DI H g ks rs) : u0 ∈ rs := by
  have h0 : 0 < rs.length := by
    rcases Nat.eq_zero_or_pos rs.length with q | q
    · have : rs = [] := List.length_eq_zero_iff.mp q
      have h3 := h.2.2.1
      rw [this] at h3
      exact absurd h3 (by decide)
    · exact q
  rw [← h.2.2.1]
  exact getD_mem h0
theorem DI.rs_in {H g ks rs : List Int} (h : DI H g ks rs) {r : Int} (hr : r ∈ rs) : r ∈ ks := by
  rw [h.2.2.2.2.2.2]
  exact mem_cosets.mpr ⟨r, hr, u0, h.1.2.1, u0_l (h.2.2.2.1 r hr).1⟩
theorem DI.H_in {H g ks rs : List Int} (h : DI H g ks rs) {a : Int} (ha : a ∈ H) : a ∈ ks := by
  rw [h.2.2.2.2.2.2]
  exact mem_cosets.mpr ⟨u0, h.u, a, ha, u0_r (h.1.2.2.1 a ha).1⟩
theorem DI.closed {H g ks rs : List Int} (h : DI H g ks rs) (hc : ∀ r ∈ rs, ∀ a ∈ g, timesK r a ∈ ks) {x a : Int} (hx : x ∈ ks) (ha : a ∈ g) : timesK x a ∈ ks := by
  obtain ⟨r, hr, c, hcc, rfl⟩ := mem_cosets.mp ((h.2.2.2.2.2.2 x).mp hx)
  have h1 := hc r hr a ha
  have hne : timesK r a ≠ -1 := by have := (h.v h1).1.1; omega
  rw [times_assoc (h.2.2.2.2.1 r hr c hcc).1 hne]
  obtain ⟨r2, hr2, c2, hc2, e⟩ := mem_cosets.mp ((h.2.2.2.2.2.2 _).mp h1)
  rw [← e, ← times_assoc (h.1.tne hcc hc2) (h.2.2.2.2.1 r2 hr2 c2 hc2).1, h.2.2.2.2.2.2]
  exact mem_cosets.mpr ⟨r2, hr2, timesK c c2, h.1.2.2.2 c hcc c2 hc2, rfl⟩
theorem DI.gen {H g ks rs : List Int} (h : DI H g ks rs) (hc : ∀ r ∈ rs, ∀ a ∈ g, timesK r a ∈ ks) (hs : ks.Pairwise (· < ·)) (hl : ks.length ≤ 192) : genOK g ks := by
  refine ⟨hs, hl, fun x => ⟨fun hx => ?_, fun hx => ?_⟩, fun x hx a ha => ?_⟩
  · obtain ⟨r, hr, c, hcc, rfl⟩ := mem_cosets.mp ((h.2.2.2.2.2.2 x).mp hx)
    exact (h.2.2.2.2.1 r hr c hcc).2
  · exact hx (fun x => x ∈ ks) (h.rs_in h.u) fun y a hy ha _ => h.closed hc hy ha
  · have := (h.v (h.closed hc hx ha)).1.1
    omega
theorem DI.in_gen {H g ks rs G : List Int} (h : DI H g ks rs) (hG : genOK g G) {x : Int} (hx : x ∈ ks) : x ∈ G := by
  obtain ⟨r, hr, c, hcc, rfl⟩ := mem_cosets.mp ((h.2.2.2.2.2.2 x).mp hx)
  exact (hG.2.2.1 _).mpr (h.2.2.2.2.1 r hr c hcc).2
theorem DI.fit {H g ks rs G : List Int} (h : DI H g ks rs) (hG : genOK g G) (hg : ∀ a ∈ g, vOK a) {x : Int} (hxG : x ∈ G) (hx : x ∉ ks) : (∀ a ∈ H, timesK a x ≠ -1) ∧ (cosets H rs).length + H.length ≤ 192 := by
  have gG := hG.isG hg
  have h1 : ∀ a ∈ H, timesK a x ∈ G := fun a ha => gG.2.2.2 a (h.in_gen hG (h.H_in ha)) x hxG
  have hne : ∀ a ∈ H, timesK a x ≠ -1 := fun a ha => gG.ne (h1 a ha)
  refine ⟨hne, ?_⟩
  have hnd := h.dis (gG.2.2.1 x hxG) hx hne
  have hl := len_sub _ G hnd fun y hy => by
    rcases List.mem_append.mp hy with q | q
    · exact h.in_gen hG ((h.2.2.2.2.2.2 y).mpr q)
    · obtain ⟨a, ha, rfl⟩ := List.mem_map.mp q
      exact h1 a ha
  rw [List.length_append, List.length_map] at hl
  have := hG.2.1
  omega
/-- at rest: the group of the generators -/
def CIv (ks cm gs : List Int) : Prop := isG cm ∧ cm.getD 0 (-1) = u0 ∧ genOK gs ks ∧ (∀ x, x ∈ ks ↔ x ∈ cm) ∧ 2 ^ gs.length ≤ cm.length ∧ (∀ a ∈ gs, vOK a) ∧ cm.length = ks.length
theorem Reach.mono {g g' : List Int} (hs : ∀ a ∈ g, a ∈ g') {x : Int} (h : Reach g x) : Reach g' x := fun S h0 h1 => h S h0 fun y a hy ha hn => h1 y a hy (hs a ha) hn
theorem CIv.DI {ks cm gs : List Int} (h : CIv ks cm gs) (key : Int) : DI cm (gs ++ [key]) ks [u0] := by
  obtain ⟨h1, h2, h3, h4, h5, h6, h7⟩ := h
  have e : cosets cm [u0] = cm := by
    unfold cosets
    simp only [List.flatMap_cons, List.flatMap_nil, List.append_nil]
    have e2 : cm.map (fun h => timesK h u0) = cm.map id := List.map_congr_left fun a ha => u0_r (h1.2.2.1 a ha).1
    rw [e2, List.map_id]
  refine ⟨h1, h2, rfl, ?_, ?_, ?_, ?_⟩
  · intro r hr
    rw [List.mem_singleton.mp hr]; exact u0_v
  · intro r hr a ha
    rw [List.mem_singleton.mp hr, u0_r (h1.2.2.1 a ha).1]
    refine ⟨h1.ne ha, ?_⟩
    exact Reach.mono (fun b hb => List.mem_append_left _ hb) ((h3.2.2.1 a).mp ((h4 a).mpr ha))
  · rw [e]; exact h1.1
  · rw [e]; exact h4
theorem CIv.start : CIv [u0] [u0] [] := by
  have hg : genOK [] [u0] := by
    refine ⟨List.pairwise_singleton _ _, by decide, fun x => ⟨fun hx => ?_, fun hx => ?_⟩, fun x hx a ha => absurd ha List.not_mem_nil⟩
    · rw [List.mem_singleton.mp hx]; exact Reach.u _
    · exact hx (fun x => x ∈ [u0]) List.mem_cons_self fun y a _ ha _ => absurd ha List.not_mem_nil
  exact ⟨hg.isG (fun a ha => absurd ha List.not_mem_nil), rfl, hg, fun x => Iff.rfl, by decide, fun a ha => absurd ha List.not_mem_nil, rfl⟩
theorem genOK.sub {g ch ks : List Int} (h : genOK ch ks) (hv : ∀ a ∈ ch, vOK a) (hs : ∀ a ∈ g, a ∈ ks) : ∃ ks', genOK g ks' := by
  have gG := h.isG hv
  have hd : ∀ x, Decidable (Reach g x) := fun x => Classical.propDecidable _
  refine ⟨ks.filter (fun x => @decide (Reach g x) (hd x)), h.1.sublist List.filter_sublist, Nat.le_trans (List.length_filter_le _ _) h.2.1, fun x => ?_, fun x hx a ha => ?_⟩
  · rw [List.mem_filter]
    constructor
    · intro q; exact @of_decide_eq_true _ (hd x) q.2
    · intro q
      refine ⟨?_, @decide_eq_true _ (hd x) q⟩
      exact q (fun x => x ∈ ks) gG.2.1 fun y a hy ha _ => gG.2.2.2 y hy a (hs a ha)
  · exact gG.tne (List.mem_filter.mp hx).1 (hs a ha)
theorem genOK.more {g ch ks : List Int} (h : genOK g ks) (hv : ∀ a ∈ g, vOK a) (h1 : ∀ a ∈ g, a ∈ ch) (h2 : ∀ a ∈ ch, a ∈ ks) : genOK ch ks := by
  have gG := h.isG hv
  refine ⟨h.1, h.2.1, fun x => ⟨fun hx => Reach.mono h1 ((h.2.2.1 x).mp hx), fun hx => ?_⟩, fun x hx a ha => gG.tne hx (h2 a ha)⟩
  exact hx (fun x => x ∈ ks) gG.2.1 fun y a hy ha _ => gG.2.2.2 y hy a (h2 a ha)
end
